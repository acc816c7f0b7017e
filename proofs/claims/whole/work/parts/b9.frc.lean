set_option linter.unusedSimpArgs false
set_option linter.unusedVariables false
/-! ===== what a call may touch (by wip/whole/pure/genfr.py) ===== -/
/-- W may be touched; the rest is as it was in M0, ρ0; nothing of W leads out of it, and all that is new is W's -/
def Iv (W : Nat → Prop) (M0 : ao_M) (ρ0 : ao_H) (M : ao_M) (ρ : ao_H) : Prop := (∀ x, ¬ W x → M x = M0 x ∧ ρ.1 x = ρ0.1 x ∧ ρ.2.1 x = ρ0.2.1 x ∧ ρ.2.2.1 x = ρ0.2.2.1 x) ∧ (∀ x k j, W x → ρ.1 x k = some j → W j) ∧ (∀ z, ρ.2.2.2.1 = some z → ∀ x, z ≤ x → W x) ∧ (∀ z0, ρ0.2.2.2.1 = some z0 → (∃ z, ρ.2.2.2.1 = some z ∧ z0 ≤ z) ∧ ∀ x, x < z0 → ρ.2.1 x = ρ0.2.1 x ∧ ρ.2.2.1 x = ρ0.2.2.1 x)
def okr (W : Nat → Prop) (ρ0 : ao_H) (r : Nat) : Prop := W r ∨ ρ0.2.1 r = 20
theorem f_none {β : Type} {Q : β → Prop} : ∀ z, (none : Option β) = some z → Q z := fun _ h => nomatch h
theorem f_some {β : Type} {Q : β → Prop} {y : β} (h : Q y) : ∀ z, some y = some z → Q z := fun z e => by cases e; exact h
theorem f_ite {β : Type} {Q : β → Prop} {c : Prop} {d : Decidable c} {A B : Option β} (h1 : c → ∀ z, A = some z → Q z) (h2 : ¬ c → ∀ z, B = some z → Q z) : ∀ z, (@ite _ c d A B) = some z → Q z := by
  intro z h
  by_cases e : c
  · rw [if_pos e] at h; exact h1 e z h
  · rw [if_neg e] at h; exact h2 e z h
theorem f_bind {α β : Type} {o : Option α} {f : α → Option β} {P : α → Prop} {Q : β → Prop} (h : ∀ y, o = some y → P y) (k : ∀ y, P y → ∀ z, f y = some z → Q z) : ∀ z, o.bind f = some z → Q z := by
  intro z hz
  cases ho : o with
  | none => rw [ho] at hz; exact nomatch hz
  | some y => rw [ho] at hz; exact k y (h y ho) z hz
theorem f_bind2 {α β : Type} {o : Option α} {f : α → Option β} {P R : α → Prop} {Q : β → Prop} (h : ∀ y, o = some y → P y ∧ R y) (k : ∀ y, P y → R y → ∀ z, f y = some z → Q z) : ∀ z, o.bind f = some z → Q z := f_bind (P := fun y => P y ∧ R y) h (fun y hy => k y hy.1 hy.2)
theorem f_letM {β : Type} {W : Nat → Prop} {M0 : ao_M} {ρ0 ρ : ao_H} {Q : β → Prop} {v : ao_M} {f : ao_M → Option β} (h : Iv W M0 ρ0 v ρ) (k : ∀ M', Iv W M0 ρ0 M' ρ → ∀ z, f M' = some z → Q z) : ∀ z, ao_let v f = some z → Q z := k v h
theorem f_letI {β : Type} {Q : β → Prop} {v : Int32} {f : Int32 → Option β} (k : ∀ v, ∀ z, f v = some z → Q z) : ∀ z, ao_let v f = some z → Q z := k v
theorem f_cs {β : Type} {Q : β → Prop} {v : Int32 ⊕ String} {f : Int32 → Option β} {g : String → Option β} (h1 : ∀ x, ∀ z, f x = some z → Q z) (h2 : ∀ E, ∀ z, g E = some z → Q z) : ∀ z, ao_cs v f g = some z → Q z := by
  cases v with
  | inl x => exact h1 x
  | inr E => exact h2 E
section Fr
variable {W : Nat → Prop} {M0 : ao_M} {ρ0 : ao_H}
theorem f_bindF {β : Type} {M : ao_M} {ρ : ao_H} {r k : Nat} {f : Nat → Option β} {Q : β → Prop} (hI : Iv W M0 ρ0 M ρ) (hr : W r) (h : ∀ j, W j → ∀ z, f j = some z → Q z) : ∀ z, (ρ.1 r k).bind f = some z → Q z := f_bind (P := fun j => W j) (fun j e => hI.2.1 r k j hr e) h
theorem f_bindZ {β : Type} {M : ao_M} {ρ : ao_H} {f : Nat → Option β} {Q : β → Prop} (hI : Iv W M0 ρ0 M ρ) (h : ∀ j, W j → ρ.2.2.2.1 = some j → ∀ z, f j = some z → Q z) : ∀ z, (ρ.2.2.2.1).bind f = some z → Q z := f_bind (P := fun j => W j ∧ ρ.2.2.2.1 = some j) (fun j e => ⟨hI.2.2.1 j e j (Nat.le_refl _), e⟩) (fun j hj => h j hj.1 hj.2)
theorem okl {r : Nat} (h : W r) : okr W ρ0 r := Or.inl h
theorem okw {M : ao_M} {ρ : ao_H} {r k : Nat} (hI : Iv W M0 ρ0 M ρ) (h : okr W ρ0 r) (e : ρ.2.1 r = k) (hk : k ≠ 20) : W r := by
  rcases h with h | h
  · exact h
  · refine Classical.byContradiction fun hn => ?_
    have := (hI.1 r hn).2.2.1
    omega
theorem Iv_u {M : ao_M} {ρ : ao_H} {r k : Nat} {x : Int32} (hI : Iv W M0 ρ0 M ρ) (hr : W r) : Iv W M0 ρ0 (ao_u M r k x) ρ := by
  refine ⟨fun y hy => ⟨?_, (hI.1 y hy).2⟩, hI.2⟩
  rw [← (hI.1 y hy).1]
  funext i
  exact u_n1 (fun e => hy (by rw [e]; exact hr))
theorem Iv_cp {M : ao_M} {ρ : ao_H} {i j sp dp n : Nat} (hI : Iv W M0 ρ0 M ρ) (hr : W j) : Iv W M0 ρ0 (ao_cp M i j sp dp n) ρ := by
  refine ⟨fun y hy => ⟨?_, (hI.1 y hy).2⟩, hI.2⟩
  rw [← (hI.1 y hy).1]
  funext i
  exact cp_n (fun e => hy (by rw [e]; exact hr))
theorem Iv_r {M : ao_M} {ρ : ao_H} {i k : Nat} {j : Nat} (hI : Iv W M0 ρ0 M ρ) (hr : W i) (hj : W j) : Iv W M0 ρ0 M (ao_r ρ i k (some j)) := by
  refine ⟨fun y hy => ?_, fun x c j' hx e => ?_, hI.2.2⟩
  · obtain ⟨h1, h2, h3, h4⟩ := hI.1 y hy
    refine ⟨h1, ?_, h3, h4⟩
    rw [← h2]
    funext c
    exact r_Fn (fun e => hy (by rw [e]; exact hr))
  · by_cases q : x = i ∧ c = k
    · obtain ⟨rfl, rfl⟩ := q
      rw [r_Fe] at e
      cases e
      exact hj
    · have : (ao_r ρ i k (some j)).1 x c = ρ.1 x c := by simp [ao_r, q]
      rw [this] at e
      exact hI.2.1 x c j' hx e
theorem Iv_new {M : ao_M} {ρ : ao_H} {n kd len sl : Nat} (hI : Iv W M0 ρ0 M ρ) (hn : W n) (e : ρ.2.2.2.1 = some n) : Iv W M0 ρ0 (ao_zr M n) (ao_nw ρ n kd len sl) := by
  refine ⟨fun y hy => ?_, fun x c j hx ej => ?_, fun z ez x hx => ?_, fun z0 e0 => ?_⟩
  · obtain ⟨h1, h2, h3, h4⟩ := hI.1 y hy
    have hne : y ≠ n := fun e => hy (by rw [e]; exact hn)
    refine ⟨?_, ?_, ?_, ?_⟩
    · rw [← h1]; funext c; exact zr_n hne
    · rw [← h2]; funext c; exact nw_F hne
    · rw [nw_K hne]; exact h3
    · rw [nw_L hne]; exact h4
  · by_cases q : x = n
    · subst q
      simp [ao_nw] at ej
    · rw [nw_F q] at ej
      exact hI.2.1 x c j hx ej
  · rw [nw_Z] at ez
    cases ez
    exact hI.2.2.1 n e x (by omega)
  · obtain ⟨⟨z, e1, e2⟩, h3⟩ := hI.2.2.2 z0 e0
    have ezn : z = n := by rw [e1] at e; exact Option.some.inj e
    refine ⟨⟨n + 1, nw_Z, by omega⟩, fun x hx => ?_⟩
    rw [nw_K (by omega), nw_L (by omega)]
    exact h3 x hx
theorem Iv_th {M : ao_M} {ρ : ao_H} (hI : Iv W M0 ρ0 M ρ) : Iv W M0 ρ0 M (ao_th ρ) := by
  refine ⟨hI.1, hI.2.1, fun z ez x hx => ?_, fun z0 e0 => ?_⟩
  rotate_left 1
  · obtain ⟨⟨z, e1, e2⟩, h3⟩ := hI.2.2.2 z0 e0
    refine ⟨⟨z + 1, ?_, by omega⟩, h3⟩
    show ρ.2.2.2.1.map (· + 1) = some (z + 1)
    rw [e1]; rfl
  cases hz : ρ.2.2.2.1 with
  | none =>
    rw [show (ao_th ρ).2.2.2.1 = ρ.2.2.2.1.map (· + 1) from rfl, hz] at ez
    exact nomatch ez
  | some z0 =>
    rw [show (ao_th ρ).2.2.2.1 = ρ.2.2.2.1.map (· + 1) from rfl, hz] at ez
    cases ez
    exact hI.2.2.1 z0 hz x (by simp only at hx; omega)

set_option maxRecDepth 100000 in
set_option maxHeartbeats 4000000 in
theorem hc_fX10_addToTape (h00 : W 0) : ∀ (n : Nat) (pc : Nat) (r0 : Nat) (x1 : Int32) (x2 : Int32) (M : ao_M) (ρ : ao_H), Iv W M0 ρ0 M ρ → W r0 → ∀ z, fX10_addToTape n pc r0 x1 x2 M ρ = some z → Iv W M0 ρ0 z ρ := by
  intro n
  induction n with
  | zero => intros; exact absurd (by assumption) (by simp [fX10_addToTape.eq_1])
  | succ n ih =>
    intro pc r0 x1 x2 M ρ hI h_r0
    rw [fX10_addToTape.eq_2]
    repeat' (with_reducible (first | exact f_none | refine f_ite (fun hc => ?_) (fun hc => ?_) | refine f_letM (Iv_u (by assumption) ?_) (fun M' hM' => ?_) | refine f_letI (fun v => ?_) | refine f_cs (fun x => ?_) (fun E => ?_) | refine f_letM (Iv_cp (by assumption) ?_) (fun M' hM' => ?_) | refine f_letM (by assumption) (fun M' hM' => ?_) | refine ih _ _ _ _ _ _ (by assumption) ?_ | refine ih _ _ _ _ _ _ ?_ ?_ | refine f_bind (ih _ _ _ _ _ _ (by assumption) ?_) (fun y hy => ?_)  | refine f_bindF (by assumption) ?_ (fun j hj => ?_) | refine f_bindZ (by assumption) (fun j hj hz => ?_) | refine f_some ?_ | assumption | exact okl (by assumption) | exact okw (by assumption) (by assumption) (by assumption) (by decide) | exact h00 | refine Iv_u (by assumption) ?_ | refine Iv_cp (by assumption) ?_ | refine Iv_r ?_ ?_ ?_ | refine Iv_new (by assumption) (by assumption) (by assumption) | refine Iv_th (by assumption) | refine Iv_u ?_ ?_ | refine Iv_cp ?_ ?_ | apply And.intro))
set_option maxRecDepth 100000 in
set_option maxHeartbeats 4000000 in
theorem hc_gX10_addToTape (h00 : W 0) {n : Nat} {r0 : Nat} {x1 : Int32} {M : ao_M} {ρ : ao_H} (hI : Iv W M0 ρ0 M ρ) (h_r0 : W r0) : ∀ z, gX10_addToTape n r0 x1 M ρ = some z → Iv W M0 ρ0 z ρ := by
  unfold gX10_addToTape
  exact hc_fX10_addToTape h00 _ _ _ _ _ _ _ hI (by first | assumption | exact h00 | exact fun h => absurd h (by decide))
set_option maxRecDepth 100000 in
set_option maxHeartbeats 4000000 in
theorem hc_fX10_feed (h00 : W 0) : ∀ (n : Nat) (pc : Nat) (r0 : Nat) (x1 : Int32) (x2 : Int32) (x3 : Int32) (x4 : Int32) (x5 : Int32) (M : ao_M) (ρ : ao_H), Iv W M0 ρ0 M ρ → W r0 → ∀ z, fX10_feed n pc r0 x1 x2 x3 x4 x5 M ρ = some z → Iv W M0 ρ0 z.2.1 z.2.2 := by
  intro n
  induction n with
  | zero => intros; exact absurd (by assumption) (by simp [fX10_feed.eq_1])
  | succ n ih =>
    intro pc r0 x1 x2 x3 x4 x5 M ρ hI h_r0
    rw [fX10_feed.eq_2]
    repeat' (with_reducible (first | exact f_none | refine f_ite (fun hc => ?_) (fun hc => ?_) | refine f_letM (Iv_u (by assumption) ?_) (fun M' hM' => ?_) | refine f_letI (fun v => ?_) | refine f_cs (fun x => ?_) (fun E => ?_) | refine f_letM (Iv_cp (by assumption) ?_) (fun M' hM' => ?_) | refine f_letM (by assumption) (fun M' hM' => ?_) | refine ih _ _ _ _ _ _ _ _ _ (by assumption) ?_ | refine ih _ _ _ _ _ _ _ _ _ ?_ ?_ | refine f_bind (ih _ _ _ _ _ _ _ _ _ (by assumption) ?_) (fun y hy => ?_) | refine f_bind (hc_gX10_addToTape h00 (by assumption) ?_) (fun y hy => ?_)  | refine f_bindF (by assumption) ?_ (fun j hj => ?_) | refine f_bindZ (by assumption) (fun j hj hz => ?_) | refine f_some ?_ | assumption | exact okl (by assumption) | exact okw (by assumption) (by assumption) (by assumption) (by decide) | exact h00 | refine Iv_u (by assumption) ?_ | refine Iv_cp (by assumption) ?_ | refine Iv_r ?_ ?_ ?_ | refine Iv_new (by assumption) (by assumption) (by assumption) | refine Iv_th (by assumption) | refine Iv_u ?_ ?_ | refine Iv_cp ?_ ?_ | apply And.intro))
set_option maxRecDepth 100000 in
set_option maxHeartbeats 4000000 in
theorem hc_gX10_feed (h00 : W 0) {n : Nat} {r0 : Nat} {x1 : Int32} {x2 : Int32} {x3 : Int32} {x4 : Int32} {x5 : Int32} {M : ao_M} {ρ : ao_H} (hI : Iv W M0 ρ0 M ρ) (h_r0 : W r0) : ∀ z, gX10_feed n r0 x1 x2 x3 x4 x5 M ρ = some z → Iv W M0 ρ0 z.2.1 z.2.2 := by
  unfold gX10_feed
  exact hc_fX10_feed h00 _ _ _ _ _ _ _ _ _ _ hI (by first | assumption | exact h00 | exact fun h => absurd h (by decide))
set_option maxRecDepth 100000 in
set_option maxHeartbeats 4000000 in
theorem hc_fL_feed (h00 : W 0) : ∀ (n : Nat) (pc : Nat) (r0 : Nat) (x1 : Int32) (x2 : Int32) (x3 : Int32) (x4 : Int32) (x5 : Int32) (r6 : Nat) (s0 : Int32) (s1 : Int32) (q2 : Nat) (M : ao_M) (ρ : ao_H), Iv W M0 ρ0 M ρ → W r0 → W r6 → W q2 → ∀ z, fL_feed n pc r0 x1 x2 x3 x4 x5 r6 s0 s1 q2 M ρ = some z → Iv W M0 ρ0 z.2.1 z.2.2 := by
  intro n
  induction n with
  | zero => intros; exact absurd (by assumption) (by simp [fL_feed.eq_1])
  | succ n ih =>
    intro pc r0 x1 x2 x3 x4 x5 r6 s0 s1 q2 M ρ hI h_r0 h_r6 h_q2
    rw [fL_feed.eq_2]
    repeat' (with_reducible (first | exact f_none | refine f_ite (fun hc => ?_) (fun hc => ?_) | refine f_letM (Iv_u (by assumption) ?_) (fun M' hM' => ?_) | refine f_letI (fun v => ?_) | refine f_cs (fun x => ?_) (fun E => ?_) | refine f_letM (Iv_cp (by assumption) ?_) (fun M' hM' => ?_) | refine f_letM (by assumption) (fun M' hM' => ?_) | refine ih _ _ _ _ _ _ _ _ _ _ _ _ _ (by assumption) ?_ ?_ ?_ | refine ih _ _ _ _ _ _ _ _ _ _ _ _ _ ?_ ?_ ?_ ?_ | refine f_bind (ih _ _ _ _ _ _ _ _ _ _ _ _ _ (by assumption) ?_ ?_ ?_) (fun y hy => ?_) | refine f_bind (hc_gX10_feed h00 (by assumption) ?_) (fun y hy => ?_)  | refine f_bindF (by assumption) ?_ (fun j hj => ?_) | refine f_bindZ (by assumption) (fun j hj hz => ?_) | refine f_some ?_ | assumption | exact okl (by assumption) | exact okw (by assumption) (by assumption) (by assumption) (by decide) | exact h00 | refine Iv_u (by assumption) ?_ | refine Iv_cp (by assumption) ?_ | refine Iv_r ?_ ?_ ?_ | refine Iv_new (by assumption) (by assumption) (by assumption) | refine Iv_th (by assumption) | refine Iv_u ?_ ?_ | refine Iv_cp ?_ ?_ | apply And.intro))
set_option maxRecDepth 100000 in
set_option maxHeartbeats 4000000 in
theorem hc_gL_feed (h00 : W 0) {n : Nat} {r0 : Nat} {x1 : Int32} {x2 : Int32} {x3 : Int32} {x4 : Int32} {x5 : Int32} {r6 : Nat} {M : ao_M} {ρ : ao_H} (hI : Iv W M0 ρ0 M ρ) (h_r0 : W r0) (h_r6 : W r6) : ∀ z, gL_feed n r0 x1 x2 x3 x4 x5 r6 M ρ = some z → Iv W M0 ρ0 z.2.1 z.2.2 := by
  unfold gL_feed
  exact hc_fL_feed h00 _ _ _ _ _ _ _ _ _ _ _ _ _ _ hI (by first | assumption | exact h00 | exact fun h => absurd h (by decide)) (by first | assumption | exact h00 | exact fun h => absurd h (by decide)) (by first | assumption | exact h00 | exact fun h => absurd h (by decide))
set_option maxRecDepth 100000 in
set_option maxHeartbeats 4000000 in
theorem hc_fX10_end (h00 : W 0) : ∀ (n : Nat) (pc : Nat) (r0 : Nat) (x1 : Int32) (M : ao_M) (ρ : ao_H), Iv W M0 ρ0 M ρ → W r0 → ∀ z, fX10_end n pc r0 x1 M ρ = some z → Iv W M0 ρ0 z.2.1 z.2.2 := by
  intro n
  induction n with
  | zero => intros; exact absurd (by assumption) (by simp [fX10_end.eq_1])
  | succ n ih =>
    intro pc r0 x1 M ρ hI h_r0
    rw [fX10_end.eq_2]
    repeat' (with_reducible (first | exact f_none | refine f_ite (fun hc => ?_) (fun hc => ?_) | refine f_letM (Iv_u (by assumption) ?_) (fun M' hM' => ?_) | refine f_letI (fun v => ?_) | refine f_cs (fun x => ?_) (fun E => ?_) | refine f_letM (Iv_cp (by assumption) ?_) (fun M' hM' => ?_) | refine f_letM (by assumption) (fun M' hM' => ?_) | refine ih _ _ _ _ _ (by assumption) ?_ | refine ih _ _ _ _ _ ?_ ?_ | refine f_bind (ih _ _ _ _ _ (by assumption) ?_) (fun y hy => ?_)  | refine f_bindF (by assumption) ?_ (fun j hj => ?_) | refine f_bindZ (by assumption) (fun j hj hz => ?_) | refine f_some ?_ | assumption | exact okl (by assumption) | exact okw (by assumption) (by assumption) (by assumption) (by decide) | exact h00 | refine Iv_u (by assumption) ?_ | refine Iv_cp (by assumption) ?_ | refine Iv_r ?_ ?_ ?_ | refine Iv_new (by assumption) (by assumption) (by assumption) | refine Iv_th (by assumption) | refine Iv_u ?_ ?_ | refine Iv_cp ?_ ?_ | apply And.intro))
set_option maxRecDepth 100000 in
set_option maxHeartbeats 4000000 in
theorem hc_gX10_end (h00 : W 0) {n : Nat} {r0 : Nat} {x1 : Int32} {M : ao_M} {ρ : ao_H} (hI : Iv W M0 ρ0 M ρ) (h_r0 : W r0) : ∀ z, gX10_end n r0 x1 M ρ = some z → Iv W M0 ρ0 z.2.1 z.2.2 := by
  unfold gX10_end
  exact hc_fX10_end h00 _ _ _ _ _ _ hI (by first | assumption | exact h00 | exact fun h => absurd h (by decide))
set_option maxRecDepth 100000 in
set_option maxHeartbeats 4000000 in
theorem hc_fL_end (h00 : W 0) : ∀ (n : Nat) (pc : Nat) (r0 : Nat) (x1 : Int32) (r2 : Nat) (s0 : Int32) (s1 : Int32) (q2 : Nat) (M : ao_M) (ρ : ao_H), Iv W M0 ρ0 M ρ → W r0 → W r2 → W q2 → ∀ z, fL_end n pc r0 x1 r2 s0 s1 q2 M ρ = some z → Iv W M0 ρ0 z.2.1 z.2.2 := by
  intro n
  induction n with
  | zero => intros; exact absurd (by assumption) (by simp [fL_end.eq_1])
  | succ n ih =>
    intro pc r0 x1 r2 s0 s1 q2 M ρ hI h_r0 h_r2 h_q2
    rw [fL_end.eq_2]
    repeat' (with_reducible (first | exact f_none | refine f_ite (fun hc => ?_) (fun hc => ?_) | refine f_letM (Iv_u (by assumption) ?_) (fun M' hM' => ?_) | refine f_letI (fun v => ?_) | refine f_cs (fun x => ?_) (fun E => ?_) | refine f_letM (Iv_cp (by assumption) ?_) (fun M' hM' => ?_) | refine f_letM (by assumption) (fun M' hM' => ?_) | refine ih _ _ _ _ _ _ _ _ _ (by assumption) ?_ ?_ ?_ | refine ih _ _ _ _ _ _ _ _ _ ?_ ?_ ?_ ?_ | refine f_bind (ih _ _ _ _ _ _ _ _ _ (by assumption) ?_ ?_ ?_) (fun y hy => ?_) | refine f_bind (hc_gX10_end h00 (by assumption) ?_) (fun y hy => ?_)  | refine f_bindF (by assumption) ?_ (fun j hj => ?_) | refine f_bindZ (by assumption) (fun j hj hz => ?_) | refine f_some ?_ | assumption | exact okl (by assumption) | exact okw (by assumption) (by assumption) (by assumption) (by decide) | exact h00 | refine Iv_u (by assumption) ?_ | refine Iv_cp (by assumption) ?_ | refine Iv_r ?_ ?_ ?_ | refine Iv_new (by assumption) (by assumption) (by assumption) | refine Iv_th (by assumption) | refine Iv_u ?_ ?_ | refine Iv_cp ?_ ?_ | apply And.intro))
set_option maxRecDepth 100000 in
set_option maxHeartbeats 4000000 in
theorem hc_gL_end (h00 : W 0) {n : Nat} {r0 : Nat} {x1 : Int32} {r2 : Nat} {M : ao_M} {ρ : ao_H} (hI : Iv W M0 ρ0 M ρ) (h_r0 : W r0) (h_r2 : W r2) : ∀ z, gL_end n r0 x1 r2 M ρ = some z → Iv W M0 ρ0 z.2.1 z.2.2 := by
  unfold gL_end
  exact hc_fL_end h00 _ _ _ _ _ _ _ _ _ _ hI (by first | assumption | exact h00 | exact fun h => absurd h (by decide)) (by first | assumption | exact h00 | exact fun h => absurd h (by decide)) (by first | assumption | exact h00 | exact fun h => absurd h (by decide))
set_option maxRecDepth 100000 in
set_option maxHeartbeats 4000000 in
theorem hc_fJ7_fill_53178 (h00 : W 0) : ∀ (n : Nat) (pc : Nat) (r0 : Nat) (x1 : Int32) (x2 : Int32) (x3 : Int32) (M : ao_M) (ρ : ao_H), Iv W M0 ρ0 M ρ → W r0 → ∀ z, fJ7_fill_53178 n pc r0 x1 x2 x3 M ρ = some z → Iv W M0 ρ0 z ρ := by
  intro n
  induction n with
  | zero => intros; exact absurd (by assumption) (by simp [fJ7_fill_53178.eq_1])
  | succ n ih =>
    intro pc r0 x1 x2 x3 M ρ hI h_r0
    rw [fJ7_fill_53178.eq_2]
    repeat' (with_reducible (first | exact f_none | refine f_ite (fun hc => ?_) (fun hc => ?_) | refine f_letM (Iv_u (by assumption) ?_) (fun M' hM' => ?_) | refine f_letI (fun v => ?_) | refine f_cs (fun x => ?_) (fun E => ?_) | refine f_letM (Iv_cp (by assumption) ?_) (fun M' hM' => ?_) | refine f_letM (by assumption) (fun M' hM' => ?_) | refine ih _ _ _ _ _ _ _ (by assumption) ?_ | refine ih _ _ _ _ _ _ _ ?_ ?_ | refine f_bind (ih _ _ _ _ _ _ _ (by assumption) ?_) (fun y hy => ?_)  | refine f_bindF (by assumption) ?_ (fun j hj => ?_) | refine f_bindZ (by assumption) (fun j hj hz => ?_) | refine f_some ?_ | assumption | exact okl (by assumption) | exact okw (by assumption) (by assumption) (by assumption) (by decide) | exact h00 | refine Iv_u (by assumption) ?_ | refine Iv_cp (by assumption) ?_ | refine Iv_r ?_ ?_ ?_ | refine Iv_new (by assumption) (by assumption) (by assumption) | refine Iv_th (by assumption) | refine Iv_u ?_ ?_ | refine Iv_cp ?_ ?_ | apply And.intro))
set_option maxRecDepth 100000 in
set_option maxHeartbeats 4000000 in
theorem hc_gJ7_fill_53178 (h00 : W 0) {n : Nat} {r0 : Nat} {x1 : Int32} {M : ao_M} {ρ : ao_H} (hI : Iv W M0 ρ0 M ρ) (h_r0 : W r0) : ∀ z, gJ7_fill_53178 n r0 x1 M ρ = some z → Iv W M0 ρ0 z ρ := by
  unfold gJ7_fill_53178
  exact hc_fJ7_fill_53178 h00 _ _ _ _ _ _ _ _ hI (by first | assumption | exact h00 | exact fun h => absurd h (by decide))
set_option maxRecDepth 100000 in
set_option maxHeartbeats 4000000 in
theorem hc_gX5_clear (h00 : W 0) {n : Nat} {r0 : Nat} {M : ao_M} {ρ : ao_H} (hI : Iv W M0 ρ0 M ρ) (h_r0 : W r0) : ∀ z, gX5_clear n r0 M ρ = some z → Iv W M0 ρ0 z ρ := by
  unfold gX5_clear
  repeat' (with_reducible (first | exact f_none | refine f_ite (fun hc => ?_) (fun hc => ?_) | refine f_letM (Iv_u (by assumption) ?_) (fun M' hM' => ?_) | refine f_letI (fun v => ?_) | refine f_cs (fun x => ?_) (fun E => ?_) | refine f_letM (Iv_cp (by assumption) ?_) (fun M' hM' => ?_) | refine f_letM (by assumption) (fun M' hM' => ?_) | refine f_bind (hc_gJ7_fill_53178 h00 (by assumption) ?_) (fun y hy => ?_)  | refine f_bindF (by assumption) ?_ (fun j hj => ?_) | refine f_bindZ (by assumption) (fun j hj hz => ?_) | refine f_some ?_ | assumption | exact okl (by assumption) | exact okw (by assumption) (by assumption) (by assumption) (by decide) | exact h00 | refine Iv_u (by assumption) ?_ | refine Iv_cp (by assumption) ?_ | refine Iv_r ?_ ?_ ?_ | refine Iv_new (by assumption) (by assumption) (by assumption) | refine Iv_th (by assumption) | refine Iv_u ?_ ?_ | refine Iv_cp ?_ ?_ | apply And.intro))
set_option maxRecDepth 100000 in
set_option maxHeartbeats 4000000 in
theorem hc_gX6_clear (h00 : W 0) {r0 : Nat} {M : ao_M} {ρ : ao_H} (hI : Iv W M0 ρ0 M ρ) (h_r0 : W r0) : ∀ z, gX6_clear r0 M ρ = some z → Iv W M0 ρ0 z ρ := by
  unfold gX6_clear
  repeat' (with_reducible (first | exact f_none | refine f_ite (fun hc => ?_) (fun hc => ?_) | refine f_letM (Iv_u (by assumption) ?_) (fun M' hM' => ?_) | refine f_letI (fun v => ?_) | refine f_cs (fun x => ?_) (fun E => ?_) | refine f_letM (Iv_cp (by assumption) ?_) (fun M' hM' => ?_) | refine f_letM (by assumption) (fun M' hM' => ?_)  | refine f_bindF (by assumption) ?_ (fun j hj => ?_) | refine f_bindZ (by assumption) (fun j hj hz => ?_) | refine f_some ?_ | assumption | exact okl (by assumption) | exact okw (by assumption) (by assumption) (by assumption) (by decide) | exact h00 | refine Iv_u (by assumption) ?_ | refine Iv_cp (by assumption) ?_ | refine Iv_r ?_ ?_ ?_ | refine Iv_new (by assumption) (by assumption) (by assumption) | refine Iv_th (by assumption) | refine Iv_u ?_ ?_ | refine Iv_cp ?_ ?_ | apply And.intro))
set_option maxRecDepth 100000 in
set_option maxHeartbeats 4000000 in
theorem hc_gX7_renew (h00 : W 0) {n : Nat} {r0 : Nat} {M : ao_M} {ρ : ao_H} (hI : Iv W M0 ρ0 M ρ) (h_r0 : W r0) : ∀ z, gX7_renew n r0 M ρ = some z → Iv W M0 ρ0 z ρ := by
  unfold gX7_renew
  repeat' (with_reducible (first | exact f_none | refine f_ite (fun hc => ?_) (fun hc => ?_) | refine f_letM (Iv_u (by assumption) ?_) (fun M' hM' => ?_) | refine f_letI (fun v => ?_) | refine f_cs (fun x => ?_) (fun E => ?_) | refine f_letM (Iv_cp (by assumption) ?_) (fun M' hM' => ?_) | refine f_letM (by assumption) (fun M' hM' => ?_) | refine f_bind (hc_gJ7_fill_53178 h00 (by assumption) ?_) (fun y hy => ?_)  | refine f_bindF (by assumption) ?_ (fun j hj => ?_) | refine f_bindZ (by assumption) (fun j hj hz => ?_) | refine f_some ?_ | assumption | exact okl (by assumption) | exact okw (by assumption) (by assumption) (by assumption) (by decide) | exact h00 | refine Iv_u (by assumption) ?_ | refine Iv_cp (by assumption) ?_ | refine Iv_r ?_ ?_ ?_ | refine Iv_new (by assumption) (by assumption) (by assumption) | refine Iv_th (by assumption) | refine Iv_u ?_ ?_ | refine Iv_cp ?_ ?_ | apply And.intro))
set_option maxRecDepth 100000 in
set_option maxHeartbeats 4000000 in
theorem hc_fX2_startAgain (h00 : W 0) : ∀ (n : Nat) (pc : Nat) (r0 : Nat) (x1 : Int32) (x2 : Int32) (M : ao_M) (ρ : ao_H), Iv W M0 ρ0 M ρ → W r0 → ∀ z, fX2_startAgain n pc r0 x1 x2 M ρ = some z → Iv W M0 ρ0 z ρ := by
  intro n
  induction n with
  | zero => intros; exact absurd (by assumption) (by simp [fX2_startAgain.eq_1])
  | succ n ih =>
    intro pc r0 x1 x2 M ρ hI h_r0
    rw [fX2_startAgain.eq_2]
    repeat' (with_reducible (first | exact f_none | refine f_ite (fun hc => ?_) (fun hc => ?_) | refine f_letM (Iv_u (by assumption) ?_) (fun M' hM' => ?_) | refine f_letI (fun v => ?_) | refine f_cs (fun x => ?_) (fun E => ?_) | refine f_letM (Iv_cp (by assumption) ?_) (fun M' hM' => ?_) | refine f_letM (by assumption) (fun M' hM' => ?_) | refine ih _ _ _ _ _ _ (by assumption) ?_ | refine ih _ _ _ _ _ _ ?_ ?_ | refine f_bind (ih _ _ _ _ _ _ (by assumption) ?_) (fun y hy => ?_) | refine f_bind (hc_gX5_clear h00 (by assumption) ?_) (fun y hy => ?_) | refine f_bind (hc_gX6_clear h00 (by assumption) ?_) (fun y hy => ?_) | refine f_bind (hc_gX7_renew h00 (by assumption) ?_) (fun y hy => ?_)  | refine f_bindF (by assumption) ?_ (fun j hj => ?_) | refine f_bindZ (by assumption) (fun j hj hz => ?_) | refine f_some ?_ | assumption | exact okl (by assumption) | exact okw (by assumption) (by assumption) (by assumption) (by decide) | exact h00 | refine Iv_u (by assumption) ?_ | refine Iv_cp (by assumption) ?_ | refine Iv_r ?_ ?_ ?_ | refine Iv_new (by assumption) (by assumption) (by assumption) | refine Iv_th (by assumption) | refine Iv_u ?_ ?_ | refine Iv_cp ?_ ?_ | apply And.intro))
set_option maxRecDepth 100000 in
set_option maxHeartbeats 4000000 in
theorem hc_gX2_startAgain (h00 : W 0) {n : Nat} {r0 : Nat} {x1 : Int32} {M : ao_M} {ρ : ao_H} (hI : Iv W M0 ρ0 M ρ) (h_r0 : W r0) : ∀ z, gX2_startAgain n r0 x1 M ρ = some z → Iv W M0 ρ0 z ρ := by
  unfold gX2_startAgain
  exact hc_fX2_startAgain h00 _ _ _ _ _ _ _ hI (by first | assumption | exact h00 | exact fun h => absurd h (by decide))
set_option maxRecDepth 100000 in
set_option maxHeartbeats 4000000 in
theorem hc_gX0_forget (h00 : W 0) {r0 : Nat} {M : ao_M} {ρ : ao_H} (hI : Iv W M0 ρ0 M ρ) (h_r0 : W r0) : ∀ z, gX0_forget r0 M ρ = some z → Iv W M0 ρ0 z ρ := by
  unfold gX0_forget
  repeat' (with_reducible (first | exact f_none | refine f_ite (fun hc => ?_) (fun hc => ?_) | refine f_letM (Iv_u (by assumption) ?_) (fun M' hM' => ?_) | refine f_letI (fun v => ?_) | refine f_cs (fun x => ?_) (fun E => ?_) | refine f_letM (Iv_cp (by assumption) ?_) (fun M' hM' => ?_) | refine f_letM (by assumption) (fun M' hM' => ?_)  | refine f_bindF (by assumption) ?_ (fun j hj => ?_) | refine f_bindZ (by assumption) (fun j hj hz => ?_) | refine f_some ?_ | assumption | exact okl (by assumption) | exact okw (by assumption) (by assumption) (by assumption) (by decide) | exact h00 | refine Iv_u (by assumption) ?_ | refine Iv_cp (by assumption) ?_ | refine Iv_r ?_ ?_ ?_ | refine Iv_new (by assumption) (by assumption) (by assumption) | refine Iv_th (by assumption) | refine Iv_u ?_ ?_ | refine Iv_cp ?_ ?_ | apply And.intro))
set_option maxRecDepth 100000 in
set_option maxHeartbeats 4000000 in
theorem hc_fX10_start (h00 : W 0) : ∀ (n : Nat) (pc : Nat) (r0 : Nat) (x1 : Int32) (M : ao_M) (ρ : ao_H), Iv W M0 ρ0 M ρ → W r0 → ∀ z, fX10_start n pc r0 x1 M ρ = some z → Iv W M0 ρ0 z.2.1 z.2.2 := by
  intro n
  induction n with
  | zero => intros; exact absurd (by assumption) (by simp [fX10_start.eq_1])
  | succ n ih =>
    intro pc r0 x1 M ρ hI h_r0
    rw [fX10_start.eq_2]
    repeat' (with_reducible (first | exact f_none | refine f_ite (fun hc => ?_) (fun hc => ?_) | refine f_letM (Iv_u (by assumption) ?_) (fun M' hM' => ?_) | refine f_letI (fun v => ?_) | refine f_cs (fun x => ?_) (fun E => ?_) | refine f_letM (Iv_cp (by assumption) ?_) (fun M' hM' => ?_) | refine f_letM (by assumption) (fun M' hM' => ?_) | refine ih _ _ _ _ _ (by assumption) ?_ | refine ih _ _ _ _ _ ?_ ?_ | refine f_bind (ih _ _ _ _ _ (by assumption) ?_) (fun y hy => ?_) | refine f_bind (hc_gX2_startAgain h00 (by assumption) ?_) (fun y hy => ?_) | refine f_bind (hc_gX0_forget h00 (by assumption) ?_) (fun y hy => ?_)  | refine f_bindF (by assumption) ?_ (fun j hj => ?_) | refine f_bindZ (by assumption) (fun j hj hz => ?_) | refine f_some ?_ | assumption | exact okl (by assumption) | exact okw (by assumption) (by assumption) (by assumption) (by decide) | exact h00 | refine Iv_u (by assumption) ?_ | refine Iv_cp (by assumption) ?_ | refine Iv_r ?_ ?_ ?_ | refine Iv_new (by assumption) (by assumption) (by assumption) | refine Iv_th (by assumption) | refine Iv_u ?_ ?_ | refine Iv_cp ?_ ?_ | apply And.intro))
set_option maxRecDepth 100000 in
set_option maxHeartbeats 4000000 in
theorem hc_gX10_start (h00 : W 0) {n : Nat} {r0 : Nat} {x1 : Int32} {M : ao_M} {ρ : ao_H} (hI : Iv W M0 ρ0 M ρ) (h_r0 : W r0) : ∀ z, gX10_start n r0 x1 M ρ = some z → Iv W M0 ρ0 z.2.1 z.2.2 := by
  unfold gX10_start
  exact hc_fX10_start h00 _ _ _ _ _ _ hI (by first | assumption | exact h00 | exact fun h => absurd h (by decide))
set_option maxRecDepth 100000 in
set_option maxHeartbeats 4000000 in
theorem hc_fL_start (h00 : W 0) : ∀ (n : Nat) (pc : Nat) (r0 : Nat) (x1 : Int32) (M : ao_M) (ρ : ao_H), Iv W M0 ρ0 M ρ → W r0 → ∀ z, fL_start n pc r0 x1 M ρ = some z → Iv W M0 ρ0 z.2.1 z.2.2 := by
  intro n
  induction n with
  | zero => intros; exact absurd (by assumption) (by simp [fL_start.eq_1])
  | succ n ih =>
    intro pc r0 x1 M ρ hI h_r0
    rw [fL_start.eq_2]
    repeat' (with_reducible (first | exact f_none | refine f_ite (fun hc => ?_) (fun hc => ?_) | refine f_letM (Iv_u (by assumption) ?_) (fun M' hM' => ?_) | refine f_letI (fun v => ?_) | refine f_cs (fun x => ?_) (fun E => ?_) | refine f_letM (Iv_cp (by assumption) ?_) (fun M' hM' => ?_) | refine f_letM (by assumption) (fun M' hM' => ?_) | refine ih _ _ _ _ _ (by assumption) ?_ | refine ih _ _ _ _ _ ?_ ?_ | refine f_bind (ih _ _ _ _ _ (by assumption) ?_) (fun y hy => ?_) | refine f_bind (hc_gX10_start h00 (by assumption) ?_) (fun y hy => ?_)  | refine f_bindF (by assumption) ?_ (fun j hj => ?_) | refine f_bindZ (by assumption) (fun j hj hz => ?_) | refine f_some ?_ | assumption | exact okl (by assumption) | exact okw (by assumption) (by assumption) (by assumption) (by decide) | exact h00 | refine Iv_u (by assumption) ?_ | refine Iv_cp (by assumption) ?_ | refine Iv_r ?_ ?_ ?_ | refine Iv_new (by assumption) (by assumption) (by assumption) | refine Iv_th (by assumption) | refine Iv_u ?_ ?_ | refine Iv_cp ?_ ?_ | apply And.intro))
set_option maxRecDepth 100000 in
set_option maxHeartbeats 4000000 in
theorem hc_gL_start (h00 : W 0) {n : Nat} {r0 : Nat} {x1 : Int32} {M : ao_M} {ρ : ao_H} (hI : Iv W M0 ρ0 M ρ) (h_r0 : W r0) : ∀ z, gL_start n r0 x1 M ρ = some z → Iv W M0 ρ0 z.2.1 z.2.2 := by
  unfold gL_start
  exact hc_fL_start h00 _ _ _ _ _ _ hI (by first | assumption | exact h00 | exact fun h => absurd h (by decide))
set_option maxRecDepth 100000 in
set_option maxHeartbeats 4000000 in
theorem hc_gX1_clear (h00 : W 0) {r0 : Nat} {M : ao_M} {ρ : ao_H} (hI : Iv W M0 ρ0 M ρ) (h_r0 : W r0) : ∀ z, gX1_clear r0 M ρ = some z → Iv W M0 ρ0 z ρ := by
  unfold gX1_clear
  repeat' (with_reducible (first | exact f_none | refine f_ite (fun hc => ?_) (fun hc => ?_) | refine f_letM (Iv_u (by assumption) ?_) (fun M' hM' => ?_) | refine f_letI (fun v => ?_) | refine f_cs (fun x => ?_) (fun E => ?_) | refine f_letM (Iv_cp (by assumption) ?_) (fun M' hM' => ?_) | refine f_letM (by assumption) (fun M' hM' => ?_)  | refine f_bindF (by assumption) ?_ (fun j hj => ?_) | refine f_bindZ (by assumption) (fun j hj hz => ?_) | refine f_some ?_ | assumption | exact okl (by assumption) | exact okw (by assumption) (by assumption) (by assumption) (by decide) | exact h00 | refine Iv_u (by assumption) ?_ | refine Iv_cp (by assumption) ?_ | refine Iv_r ?_ ?_ ?_ | refine Iv_new (by assumption) (by assumption) (by assumption) | refine Iv_th (by assumption) | refine Iv_u ?_ ?_ | refine Iv_cp ?_ ?_ | apply And.intro))
set_option maxRecDepth 100000 in
set_option maxHeartbeats 4000000 in
theorem hc_gX9_byteAt (h00 : W 0) {r0 : Nat} {x1 : Int32} {M : ao_M} {ρ : ao_H} (hI : Iv W M0 ρ0 M ρ) (h_r0 : W r0) : ∀ z, gX9_byteAt r0 x1 M ρ = some z → Iv W M0 ρ0 z.2 ρ := by
  unfold gX9_byteAt
  repeat' (with_reducible (first | exact f_none | refine f_ite (fun hc => ?_) (fun hc => ?_) | refine f_letM (Iv_u (by assumption) ?_) (fun M' hM' => ?_) | refine f_letI (fun v => ?_) | refine f_cs (fun x => ?_) (fun E => ?_) | refine f_letM (Iv_cp (by assumption) ?_) (fun M' hM' => ?_) | refine f_letM (by assumption) (fun M' hM' => ?_)  | refine f_bindF (by assumption) ?_ (fun j hj => ?_) | refine f_bindZ (by assumption) (fun j hj hz => ?_) | refine f_some ?_ | assumption | exact okl (by assumption) | exact okw (by assumption) (by assumption) (by assumption) (by decide) | exact h00 | refine Iv_u (by assumption) ?_ | refine Iv_cp (by assumption) ?_ | refine Iv_r ?_ ?_ ?_ | refine Iv_new (by assumption) (by assumption) (by assumption) | refine Iv_th (by assumption) | refine Iv_u ?_ ?_ | refine Iv_cp ?_ ?_ | apply And.intro))
set_option maxRecDepth 100000 in
set_option maxHeartbeats 4000000 in
theorem hc_fX9_isBlank (h00 : W 0) : ∀ (n : Nat) (pc : Nat) (x0 : Int32) (M : ao_M) (ρ : ao_H), Iv W M0 ρ0 M ρ → ∀ z, fX9_isBlank n pc x0 M ρ = some z → Iv W M0 ρ0 z.2 ρ := by
  intro n
  induction n with
  | zero => intros; exact absurd (by assumption) (by simp [fX9_isBlank.eq_1])
  | succ n ih =>
    intro pc x0 M ρ hI 
    rw [fX9_isBlank.eq_2]
    repeat' (with_reducible (first | exact f_none | refine f_ite (fun hc => ?_) (fun hc => ?_) | refine f_letM (Iv_u (by assumption) ?_) (fun M' hM' => ?_) | refine f_letI (fun v => ?_) | refine f_cs (fun x => ?_) (fun E => ?_) | refine f_letM (Iv_cp (by assumption) ?_) (fun M' hM' => ?_) | refine f_letM (by assumption) (fun M' hM' => ?_) | refine ih _ _ _ _ (by assumption)  | refine ih _ _ _ _ ?_  | refine f_bind (ih _ _ _ _ (by assumption) ) (fun y hy => ?_)  | refine f_bindF (by assumption) ?_ (fun j hj => ?_) | refine f_bindZ (by assumption) (fun j hj hz => ?_) | refine f_some ?_ | assumption | exact okl (by assumption) | exact okw (by assumption) (by assumption) (by assumption) (by decide) | exact h00 | refine Iv_u (by assumption) ?_ | refine Iv_cp (by assumption) ?_ | refine Iv_r ?_ ?_ ?_ | refine Iv_new (by assumption) (by assumption) (by assumption) | refine Iv_th (by assumption) | refine Iv_u ?_ ?_ | refine Iv_cp ?_ ?_ | apply And.intro))
set_option maxRecDepth 100000 in
set_option maxHeartbeats 4000000 in
theorem hc_gX9_isBlank (h00 : W 0) {n : Nat} {x0 : Int32} {M : ao_M} {ρ : ao_H} (hI : Iv W M0 ρ0 M ρ)  : ∀ z, gX9_isBlank n x0 M ρ = some z → Iv W M0 ρ0 z.2 ρ := by
  unfold gX9_isBlank
  exact hc_fX9_isBlank h00 _ _ _ _ _ hI 
set_option maxRecDepth 100000 in
set_option maxHeartbeats 4000000 in
theorem hc_gX9_isSmall (h00 : W 0) {x0 : Int32} {M : ao_M} {ρ : ao_H} (hI : Iv W M0 ρ0 M ρ)  : ∀ z, gX9_isSmall x0 M ρ = some z → Iv W M0 ρ0 z.2 ρ := by
  unfold gX9_isSmall
  repeat' (with_reducible (first | exact f_none | refine f_ite (fun hc => ?_) (fun hc => ?_) | refine f_letM (Iv_u (by assumption) ?_) (fun M' hM' => ?_) | refine f_letI (fun v => ?_) | refine f_cs (fun x => ?_) (fun E => ?_) | refine f_letM (Iv_cp (by assumption) ?_) (fun M' hM' => ?_) | refine f_letM (by assumption) (fun M' hM' => ?_)  | refine f_bindF (by assumption) ?_ (fun j hj => ?_) | refine f_bindZ (by assumption) (fun j hj hz => ?_) | refine f_some ?_ | assumption | exact okl (by assumption) | exact okw (by assumption) (by assumption) (by assumption) (by decide) | exact h00 | refine Iv_u (by assumption) ?_ | refine Iv_cp (by assumption) ?_ | refine Iv_r ?_ ?_ ?_ | refine Iv_new (by assumption) (by assumption) (by assumption) | refine Iv_th (by assumption) | refine Iv_u ?_ ?_ | refine Iv_cp ?_ ?_ | apply And.intro))
set_option maxRecDepth 100000 in
set_option maxHeartbeats 4000000 in
theorem hc_fX9_isLetter (h00 : W 0) : ∀ (n : Nat) (pc : Nat) (x0 : Int32) (M : ao_M) (ρ : ao_H), Iv W M0 ρ0 M ρ → ∀ z, fX9_isLetter n pc x0 M ρ = some z → Iv W M0 ρ0 z.2 ρ := by
  intro n
  induction n with
  | zero => intros; exact absurd (by assumption) (by simp [fX9_isLetter.eq_1])
  | succ n ih =>
    intro pc x0 M ρ hI 
    rw [fX9_isLetter.eq_2]
    repeat' (with_reducible (first | exact f_none | refine f_ite (fun hc => ?_) (fun hc => ?_) | refine f_letM (Iv_u (by assumption) ?_) (fun M' hM' => ?_) | refine f_letI (fun v => ?_) | refine f_cs (fun x => ?_) (fun E => ?_) | refine f_letM (Iv_cp (by assumption) ?_) (fun M' hM' => ?_) | refine f_letM (by assumption) (fun M' hM' => ?_) | refine ih _ _ _ _ (by assumption)  | refine ih _ _ _ _ ?_  | refine f_bind (ih _ _ _ _ (by assumption) ) (fun y hy => ?_) | refine f_bind (hc_gX9_isSmall h00 (by assumption)) (fun y hy => ?_)  | refine f_bindF (by assumption) ?_ (fun j hj => ?_) | refine f_bindZ (by assumption) (fun j hj hz => ?_) | refine f_some ?_ | assumption | exact okl (by assumption) | exact okw (by assumption) (by assumption) (by assumption) (by decide) | exact h00 | refine Iv_u (by assumption) ?_ | refine Iv_cp (by assumption) ?_ | refine Iv_r ?_ ?_ ?_ | refine Iv_new (by assumption) (by assumption) (by assumption) | refine Iv_th (by assumption) | refine Iv_u ?_ ?_ | refine Iv_cp ?_ ?_ | apply And.intro))
set_option maxRecDepth 100000 in
set_option maxHeartbeats 4000000 in
theorem hc_gX9_isLetter (h00 : W 0) {n : Nat} {x0 : Int32} {M : ao_M} {ρ : ao_H} (hI : Iv W M0 ρ0 M ρ)  : ∀ z, gX9_isLetter n x0 M ρ = some z → Iv W M0 ρ0 z.2 ρ := by
  unfold gX9_isLetter
  exact hc_fX9_isLetter h00 _ _ _ _ _ hI 
set_option maxRecDepth 100000 in
set_option maxHeartbeats 4000000 in
theorem hc_gX9_isDigit (h00 : W 0) {x0 : Int32} {M : ao_M} {ρ : ao_H} (hI : Iv W M0 ρ0 M ρ)  : ∀ z, gX9_isDigit x0 M ρ = some z → Iv W M0 ρ0 z.2 ρ := by
  unfold gX9_isDigit
  repeat' (with_reducible (first | exact f_none | refine f_ite (fun hc => ?_) (fun hc => ?_) | refine f_letM (Iv_u (by assumption) ?_) (fun M' hM' => ?_) | refine f_letI (fun v => ?_) | refine f_cs (fun x => ?_) (fun E => ?_) | refine f_letM (Iv_cp (by assumption) ?_) (fun M' hM' => ?_) | refine f_letM (by assumption) (fun M' hM' => ?_)  | refine f_bindF (by assumption) ?_ (fun j hj => ?_) | refine f_bindZ (by assumption) (fun j hj hz => ?_) | refine f_some ?_ | assumption | exact okl (by assumption) | exact okw (by assumption) (by assumption) (by assumption) (by decide) | exact h00 | refine Iv_u (by assumption) ?_ | refine Iv_cp (by assumption) ?_ | refine Iv_r ?_ ?_ ?_ | refine Iv_new (by assumption) (by assumption) (by assumption) | refine Iv_th (by assumption) | refine Iv_u ?_ ?_ | refine Iv_cp ?_ ?_ | apply And.intro))
set_option maxRecDepth 100000 in
set_option maxHeartbeats 4000000 in
theorem hc_gX9_equalsKind (h00 : W 0) {r0 : Nat} {M : ao_M} {ρ : ao_H} (hI : Iv W M0 ρ0 M ρ) (h_r0 : W r0) : ∀ z, gX9_equalsKind r0 M ρ = some z → Iv W M0 ρ0 z.2 ρ := by
  unfold gX9_equalsKind
  repeat' (with_reducible (first | exact f_none | refine f_ite (fun hc => ?_) (fun hc => ?_) | refine f_letM (Iv_u (by assumption) ?_) (fun M' hM' => ?_) | refine f_letI (fun v => ?_) | refine f_cs (fun x => ?_) (fun E => ?_) | refine f_letM (Iv_cp (by assumption) ?_) (fun M' hM' => ?_) | refine f_letM (by assumption) (fun M' hM' => ?_) | refine f_bind (hc_gX9_byteAt h00 (by assumption) ?_) (fun y hy => ?_)  | refine f_bindF (by assumption) ?_ (fun j hj => ?_) | refine f_bindZ (by assumption) (fun j hj hz => ?_) | refine f_some ?_ | assumption | exact okl (by assumption) | exact okw (by assumption) (by assumption) (by assumption) (by decide) | exact h00 | refine Iv_u (by assumption) ?_ | refine Iv_cp (by assumption) ?_ | refine Iv_r ?_ ?_ ?_ | refine Iv_new (by assumption) (by assumption) (by assumption) | refine Iv_th (by assumption) | refine Iv_u ?_ ?_ | refine Iv_cp ?_ ?_ | apply And.intro))
set_option maxRecDepth 100000 in
set_option maxHeartbeats 4000000 in
theorem hc_gX9_signKind (h00 : W 0) {r0 : Nat} {x1 : Int32} {M : ao_M} {ρ : ao_H} (hI : Iv W M0 ρ0 M ρ) (h_r0 : W r0) : ∀ z, gX9_signKind r0 x1 M ρ = some z → Iv W M0 ρ0 z.2 ρ := by
  unfold gX9_signKind
  repeat' (with_reducible (first | exact f_none | refine f_ite (fun hc => ?_) (fun hc => ?_) | refine f_letM (Iv_u (by assumption) ?_) (fun M' hM' => ?_) | refine f_letI (fun v => ?_) | refine f_cs (fun x => ?_) (fun E => ?_) | refine f_letM (Iv_cp (by assumption) ?_) (fun M' hM' => ?_) | refine f_letM (by assumption) (fun M' hM' => ?_) | refine f_bind (hc_gX9_equalsKind h00 (by assumption) ?_) (fun y hy => ?_)  | refine f_bindF (by assumption) ?_ (fun j hj => ?_) | refine f_bindZ (by assumption) (fun j hj hz => ?_) | refine f_some ?_ | assumption | exact okl (by assumption) | exact okw (by assumption) (by assumption) (by assumption) (by decide) | exact h00 | refine Iv_u (by assumption) ?_ | refine Iv_cp (by assumption) ?_ | refine Iv_r ?_ ?_ ?_ | refine Iv_new (by assumption) (by assumption) (by assumption) | refine Iv_th (by assumption) | refine Iv_u ?_ ?_ | refine Iv_cp ?_ ?_ | apply And.intro))
set_option maxRecDepth 100000 in
set_option maxHeartbeats 4000000 in
theorem hc_fX9_numberKind (h00 : W 0) : ∀ (n : Nat) (pc : Nat) (r0 : Nat) (M : ao_M) (ρ : ao_H), Iv W M0 ρ0 M ρ → W r0 → ∀ z, fX9_numberKind n pc r0 M ρ = some z → Iv W M0 ρ0 z.2 ρ := by
  intro n
  induction n with
  | zero => intros; exact absurd (by assumption) (by simp [fX9_numberKind.eq_1])
  | succ n ih =>
    intro pc r0 M ρ hI h_r0
    rw [fX9_numberKind.eq_2]
    repeat' (with_reducible (first | exact f_none | refine f_ite (fun hc => ?_) (fun hc => ?_) | refine f_letM (Iv_u (by assumption) ?_) (fun M' hM' => ?_) | refine f_letI (fun v => ?_) | refine f_cs (fun x => ?_) (fun E => ?_) | refine f_letM (Iv_cp (by assumption) ?_) (fun M' hM' => ?_) | refine f_letM (by assumption) (fun M' hM' => ?_) | refine ih _ _ _ _ (by assumption) ?_ | refine ih _ _ _ _ ?_ ?_ | refine f_bind (ih _ _ _ _ (by assumption) ?_) (fun y hy => ?_) | refine f_bind (hc_gX9_byteAt h00 (by assumption) ?_) (fun y hy => ?_) | refine f_bind (hc_gX9_isDigit h00 (by assumption)) (fun y hy => ?_)  | refine f_bindF (by assumption) ?_ (fun j hj => ?_) | refine f_bindZ (by assumption) (fun j hj hz => ?_) | refine f_some ?_ | assumption | exact okl (by assumption) | exact okw (by assumption) (by assumption) (by assumption) (by decide) | exact h00 | refine Iv_u (by assumption) ?_ | refine Iv_cp (by assumption) ?_ | refine Iv_r ?_ ?_ ?_ | refine Iv_new (by assumption) (by assumption) (by assumption) | refine Iv_th (by assumption) | refine Iv_u ?_ ?_ | refine Iv_cp ?_ ?_ | apply And.intro))
set_option maxRecDepth 100000 in
set_option maxHeartbeats 4000000 in
theorem hc_gX9_numberKind (h00 : W 0) {n : Nat} {r0 : Nat} {M : ao_M} {ρ : ao_H} (hI : Iv W M0 ρ0 M ρ) (h_r0 : W r0) : ∀ z, gX9_numberKind n r0 M ρ = some z → Iv W M0 ρ0 z.2 ρ := by
  unfold gX9_numberKind
  exact hc_fX9_numberKind h00 _ _ _ _ _ hI (by first | assumption | exact h00 | exact fun h => absurd h (by decide))
set_option maxRecDepth 100000 in
set_option maxHeartbeats 4000000 in
theorem hc_fX9_isWord (h00 : W 0) : ∀ (n : Nat) (pc : Nat) (r0 : Nat) (r1 : Nat) (x2 : Int32) (M : ao_M) (ρ : ao_H), Iv W M0 ρ0 M ρ → W r0 → ∀ z, fX9_isWord n pc r0 r1 x2 M ρ = some z → Iv W M0 ρ0 z.2 ρ := by
  intro n
  induction n with
  | zero => intros; exact absurd (by assumption) (by simp [fX9_isWord.eq_1])
  | succ n ih =>
    intro pc r0 r1 x2 M ρ hI h_r0
    rw [fX9_isWord.eq_2]
    repeat' (with_reducible (first | exact f_none | refine f_ite (fun hc => ?_) (fun hc => ?_) | refine f_letM (Iv_u (by assumption) ?_) (fun M' hM' => ?_) | refine f_letI (fun v => ?_) | refine f_cs (fun x => ?_) (fun E => ?_) | refine f_letM (Iv_cp (by assumption) ?_) (fun M' hM' => ?_) | refine f_letM (by assumption) (fun M' hM' => ?_) | refine ih _ _ _ _ _ _ (by assumption) ?_ | refine ih _ _ _ _ _ _ ?_ ?_ | refine f_bind (ih _ _ _ _ _ _ (by assumption) ?_) (fun y hy => ?_) | refine f_bind (hc_gX9_byteAt h00 (by assumption) ?_) (fun y hy => ?_)  | refine f_bindF (by assumption) ?_ (fun j hj => ?_) | refine f_bindZ (by assumption) (fun j hj hz => ?_) | refine f_some ?_ | assumption | exact okl (by assumption) | exact okw (by assumption) (by assumption) (by assumption) (by decide) | exact h00 | refine Iv_u (by assumption) ?_ | refine Iv_cp (by assumption) ?_ | refine Iv_r ?_ ?_ ?_ | refine Iv_new (by assumption) (by assumption) (by assumption) | refine Iv_th (by assumption) | refine Iv_u ?_ ?_ | refine Iv_cp ?_ ?_ | apply And.intro))
set_option maxRecDepth 100000 in
set_option maxHeartbeats 4000000 in
theorem hc_gX9_isWord (h00 : W 0) {n : Nat} {r0 : Nat} {r1 : Nat} {M : ao_M} {ρ : ao_H} (hI : Iv W M0 ρ0 M ρ) (h_r0 : W r0) : ∀ z, gX9_isWord n r0 r1 M ρ = some z → Iv W M0 ρ0 z.2 ρ := by
  unfold gX9_isWord
  exact hc_fX9_isWord h00 _ _ _ _ _ _ _ hI (by first | assumption | exact h00 | exact fun h => absurd h (by decide))
set_option maxRecDepth 100000 in
set_option maxHeartbeats 4000000 in
theorem hc_gX9_keywordKind (h00 : W 0) {n : Nat} {r0 : Nat} {M : ao_M} {ρ : ao_H} (hI : Iv W M0 ρ0 M ρ) (h_r0 : W r0) : ∀ z, gX9_keywordKind n r0 M ρ = some z → Iv W M0 ρ0 z.2 ρ := by
  unfold gX9_keywordKind
  repeat' (with_reducible (first | exact f_none | refine f_ite (fun hc => ?_) (fun hc => ?_) | refine f_letM (Iv_u (by assumption) ?_) (fun M' hM' => ?_) | refine f_letI (fun v => ?_) | refine f_cs (fun x => ?_) (fun E => ?_) | refine f_letM (Iv_cp (by assumption) ?_) (fun M' hM' => ?_) | refine f_letM (by assumption) (fun M' hM' => ?_) | refine f_bind (hc_gX9_isWord h00 (by assumption) ?_) (fun y hy => ?_)  | refine f_bindF (by assumption) ?_ (fun j hj => ?_) | refine f_bindZ (by assumption) (fun j hj hz => ?_) | refine f_some ?_ | assumption | exact okl (by assumption) | exact okw (by assumption) (by assumption) (by assumption) (by decide) | exact h00 | refine Iv_u (by assumption) ?_ | refine Iv_cp (by assumption) ?_ | refine Iv_r ?_ ?_ ?_ | refine Iv_new (by assumption) (by assumption) (by assumption) | refine Iv_th (by assumption) | refine Iv_u ?_ ?_ | refine Iv_cp ?_ ?_ | apply And.intro))
set_option maxRecDepth 100000 in
set_option maxHeartbeats 4000000 in
theorem hc_fX9_wordKind (h00 : W 0) : ∀ (n : Nat) (pc : Nat) (r0 : Nat) (x1 : Int32) (s0 : Int32) (q1 : Nat) (M : ao_M) (ρ : ao_H), Iv W M0 ρ0 M ρ → W r0 → W q1 → ∀ z, fX9_wordKind n pc r0 x1 s0 q1 M ρ = some z → Iv W M0 ρ0 z.2 ρ := by
  intro n
  induction n with
  | zero => intros; exact absurd (by assumption) (by simp [fX9_wordKind.eq_1])
  | succ n ih =>
    intro pc r0 x1 s0 q1 M ρ hI h_r0 h_q1
    rw [fX9_wordKind.eq_2]
    repeat' (with_reducible (first | exact f_none | refine f_ite (fun hc => ?_) (fun hc => ?_) | refine f_letM (Iv_u (by assumption) ?_) (fun M' hM' => ?_) | refine f_letI (fun v => ?_) | refine f_cs (fun x => ?_) (fun E => ?_) | refine f_letM (Iv_cp (by assumption) ?_) (fun M' hM' => ?_) | refine f_letM (by assumption) (fun M' hM' => ?_) | refine ih _ _ _ _ _ _ _ (by assumption) ?_ ?_ | refine ih _ _ _ _ _ _ _ ?_ ?_ ?_ | refine f_bind (ih _ _ _ _ _ _ _ (by assumption) ?_ ?_) (fun y hy => ?_) | refine f_bind (hc_gX9_byteAt h00 (by assumption) ?_) (fun y hy => ?_) | refine f_bind (hc_gX9_isLetter h00 (by assumption)) (fun y hy => ?_) | refine f_bind (hc_gX9_isSmall h00 (by assumption)) (fun y hy => ?_) | refine f_bind (hc_gX9_keywordKind h00 (by assumption) ?_) (fun y hy => ?_)  | refine f_bindF (by assumption) ?_ (fun j hj => ?_) | refine f_bindZ (by assumption) (fun j hj hz => ?_) | refine f_some ?_ | assumption | exact okl (by assumption) | exact okw (by assumption) (by assumption) (by assumption) (by decide) | exact h00 | refine Iv_u (by assumption) ?_ | refine Iv_cp (by assumption) ?_ | refine Iv_r ?_ ?_ ?_ | refine Iv_new (by assumption) (by assumption) (by assumption) | refine Iv_th (by assumption) | refine Iv_u ?_ ?_ | refine Iv_cp ?_ ?_ | apply And.intro))
set_option maxRecDepth 100000 in
set_option maxHeartbeats 4000000 in
theorem hc_gX9_wordKind (h00 : W 0) {n : Nat} {r0 : Nat} {M : ao_M} {ρ : ao_H} (hI : Iv W M0 ρ0 M ρ) (h_r0 : W r0) : ∀ z, gX9_wordKind n r0 M ρ = some z → Iv W M0 ρ0 z.2 ρ := by
  unfold gX9_wordKind
  exact hc_fX9_wordKind h00 _ _ _ _ _ _ _ _ hI (by first | assumption | exact h00 | exact fun h => absurd h (by decide)) (by first | assumption | exact h00 | exact fun h => absurd h (by decide))
set_option maxRecDepth 100000 in
set_option maxHeartbeats 4000000 in
theorem hc_fX9_scan (h00 : W 0) : ∀ (n : Nat) (pc : Nat) (r0 : Nat) (M : ao_M) (ρ : ao_H), Iv W M0 ρ0 M ρ → W r0 → ∀ z, fX9_scan n pc r0 M ρ = some z → Iv W M0 ρ0 z ρ := by
  intro n
  induction n with
  | zero => intros; exact absurd (by assumption) (by simp [fX9_scan.eq_1])
  | succ n ih =>
    intro pc r0 M ρ hI h_r0
    rw [fX9_scan.eq_2]
    repeat' (with_reducible (first | exact f_none | refine f_ite (fun hc => ?_) (fun hc => ?_) | refine f_letM (Iv_u (by assumption) ?_) (fun M' hM' => ?_) | refine f_letI (fun v => ?_) | refine f_cs (fun x => ?_) (fun E => ?_) | refine f_letM (Iv_cp (by assumption) ?_) (fun M' hM' => ?_) | refine f_letM (by assumption) (fun M' hM' => ?_) | refine ih _ _ _ _ (by assumption) ?_ | refine ih _ _ _ _ ?_ ?_ | refine f_bind (ih _ _ _ _ (by assumption) ?_) (fun y hy => ?_) | refine f_bind (hc_gX9_byteAt h00 (by assumption) ?_) (fun y hy => ?_) | refine f_bind (hc_gX9_isBlank h00 (by assumption)) (fun y hy => ?_) | refine f_bind (hc_gX9_isLetter h00 (by assumption)) (fun y hy => ?_) | refine f_bind (hc_gX9_isDigit h00 (by assumption)) (fun y hy => ?_) | refine f_bind (hc_gX9_signKind h00 (by assumption) ?_) (fun y hy => ?_) | refine f_bind (hc_gX9_numberKind h00 (by assumption) ?_) (fun y hy => ?_) | refine f_bind (hc_gX9_wordKind h00 (by assumption) ?_) (fun y hy => ?_)  | refine f_bindF (by assumption) ?_ (fun j hj => ?_) | refine f_bindZ (by assumption) (fun j hj hz => ?_) | refine f_some ?_ | assumption | exact okl (by assumption) | exact okw (by assumption) (by assumption) (by assumption) (by decide) | exact h00 | refine Iv_u (by assumption) ?_ | refine Iv_cp (by assumption) ?_ | refine Iv_r ?_ ?_ ?_ | refine Iv_new (by assumption) (by assumption) (by assumption) | refine Iv_th (by assumption) | refine Iv_u ?_ ?_ | refine Iv_cp ?_ ?_ | apply And.intro))
set_option maxRecDepth 100000 in
set_option maxHeartbeats 4000000 in
theorem hc_gX9_scan (h00 : W 0) {n : Nat} {r0 : Nat} {M : ao_M} {ρ : ao_H} (hI : Iv W M0 ρ0 M ρ) (h_r0 : W r0) : ∀ z, gX9_scan n r0 M ρ = some z → Iv W M0 ρ0 z ρ := by
  unfold gX9_scan
  exact hc_fX9_scan h00 _ _ _ _ _ hI (by first | assumption | exact h00 | exact fun h => absurd h (by decide))
set_option maxRecDepth 100000 in
set_option maxHeartbeats 4000000 in
theorem hc_fX9_advance (h00 : W 0) : ∀ (n : Nat) (pc : Nat) (r0 : Nat) (M : ao_M) (ρ : ao_H), Iv W M0 ρ0 M ρ → W r0 → ∀ z, fX9_advance n pc r0 M ρ = some z → Iv W M0 ρ0 z ρ := by
  intro n
  induction n with
  | zero => intros; exact absurd (by assumption) (by simp [fX9_advance.eq_1])
  | succ n ih =>
    intro pc r0 M ρ hI h_r0
    rw [fX9_advance.eq_2]
    repeat' (with_reducible (first | exact f_none | refine f_ite (fun hc => ?_) (fun hc => ?_) | refine f_letM (Iv_u (by assumption) ?_) (fun M' hM' => ?_) | refine f_letI (fun v => ?_) | refine f_cs (fun x => ?_) (fun E => ?_) | refine f_letM (Iv_cp (by assumption) ?_) (fun M' hM' => ?_) | refine f_letM (by assumption) (fun M' hM' => ?_) | refine ih _ _ _ _ (by assumption) ?_ | refine ih _ _ _ _ ?_ ?_ | refine f_bind (ih _ _ _ _ (by assumption) ?_) (fun y hy => ?_)  | refine f_bindF (by assumption) ?_ (fun j hj => ?_) | refine f_bindZ (by assumption) (fun j hj hz => ?_) | refine f_some ?_ | assumption | exact okl (by assumption) | exact okw (by assumption) (by assumption) (by assumption) (by decide) | exact h00 | refine Iv_u (by assumption) ?_ | refine Iv_cp (by assumption) ?_ | refine Iv_r ?_ ?_ ?_ | refine Iv_new (by assumption) (by assumption) (by assumption) | refine Iv_th (by assumption) | refine Iv_u ?_ ?_ | refine Iv_cp ?_ ?_ | apply And.intro))
set_option maxRecDepth 100000 in
set_option maxHeartbeats 4000000 in
theorem hc_gX9_advance (h00 : W 0) {n : Nat} {r0 : Nat} {M : ao_M} {ρ : ao_H} (hI : Iv W M0 ρ0 M ρ) (h_r0 : W r0) : ∀ z, gX9_advance n r0 M ρ = some z → Iv W M0 ρ0 z ρ := by
  unfold gX9_advance
  exact hc_fX9_advance h00 _ _ _ _ _ hI (by first | assumption | exact h00 | exact fun h => absurd h (by decide))
set_option maxRecDepth 100000 in
set_option maxHeartbeats 4000000 in
theorem hc_fX9_read (h00 : W 0) : ∀ (n : Nat) (pc : Nat) (r0 : Nat) (r1 : Nat) (x2 : Int32) (x3 : Int32) (M : ao_M) (ρ : ao_H), Iv W M0 ρ0 M ρ → W r0 → W r1 → ∀ z, fX9_read n pc r0 r1 x2 x3 M ρ = some z → Iv W M0 ρ0 z.1 z.2 := by
  intro n
  induction n with
  | zero => intros; exact absurd (by assumption) (by simp [fX9_read.eq_1])
  | succ n ih =>
    intro pc r0 r1 x2 x3 M ρ hI h_r0 h_r1
    rw [fX9_read.eq_2]
    repeat' (with_reducible (first | exact f_none | refine f_ite (fun hc => ?_) (fun hc => ?_) | refine f_letM (Iv_u (by assumption) ?_) (fun M' hM' => ?_) | refine f_letI (fun v => ?_) | refine f_cs (fun x => ?_) (fun E => ?_) | refine f_letM (Iv_cp (by assumption) ?_) (fun M' hM' => ?_) | refine f_letM (by assumption) (fun M' hM' => ?_) | refine ih _ _ _ _ _ _ _ (by assumption) ?_ ?_ | refine ih _ _ _ _ _ _ _ ?_ ?_ ?_ | refine f_bind (ih _ _ _ _ _ _ _ (by assumption) ?_ ?_) (fun y hy => ?_) | refine f_bind (hc_gX9_scan h00 (by assumption) ?_) (fun y hy => ?_) | refine f_bind (hc_gX9_advance h00 (by assumption) ?_) (fun y hy => ?_)  | refine f_bindF (by assumption) ?_ (fun j hj => ?_) | refine f_bindZ (by assumption) (fun j hj hz => ?_) | refine f_some ?_ | assumption | exact okl (by assumption) | exact okw (by assumption) (by assumption) (by assumption) (by decide) | exact h00 | refine Iv_u (by assumption) ?_ | refine Iv_cp (by assumption) ?_ | refine Iv_r ?_ ?_ ?_ | refine Iv_new (by assumption) (by assumption) (by assumption) | refine Iv_th (by assumption) | refine Iv_u ?_ ?_ | refine Iv_cp ?_ ?_ | apply And.intro))
set_option maxRecDepth 100000 in
set_option maxHeartbeats 4000000 in
theorem hc_gX9_read (h00 : W 0) {n : Nat} {r0 : Nat} {r1 : Nat} {x2 : Int32} {M : ao_M} {ρ : ao_H} (hI : Iv W M0 ρ0 M ρ) (h_r0 : W r0) (h_r1 : W r1) : ∀ z, gX9_read n r0 r1 x2 M ρ = some z → Iv W M0 ρ0 z.1 z.2 := by
  unfold gX9_read
  exact hc_fX9_read h00 _ _ _ _ _ _ _ _ hI (by first | assumption | exact h00 | exact fun h => absurd h (by decide)) (by first | assumption | exact h00 | exact fun h => absurd h (by decide))
set_option maxRecDepth 100000 in
set_option maxHeartbeats 4000000 in
theorem hc_gX4_broken (h00 : W 0) {r0 : Nat} {M : ao_M} {ρ : ao_H} (hI : Iv W M0 ρ0 M ρ) (h_r0 : W r0) : ∀ z, gX4_broken r0 M ρ = some z → Iv W M0 ρ0 z.2 ρ := by
  unfold gX4_broken
  repeat' (with_reducible (first | exact f_none | refine f_ite (fun hc => ?_) (fun hc => ?_) | refine f_letM (Iv_u (by assumption) ?_) (fun M' hM' => ?_) | refine f_letI (fun v => ?_) | refine f_cs (fun x => ?_) (fun E => ?_) | refine f_letM (Iv_cp (by assumption) ?_) (fun M' hM' => ?_) | refine f_letM (by assumption) (fun M' hM' => ?_)  | refine f_bindF (by assumption) ?_ (fun j hj => ?_) | refine f_bindZ (by assumption) (fun j hj hz => ?_) | refine f_some ?_ | assumption | exact okl (by assumption) | exact okw (by assumption) (by assumption) (by assumption) (by decide) | exact h00 | refine Iv_u (by assumption) ?_ | refine Iv_cp (by assumption) ?_ | refine Iv_r ?_ ?_ ?_ | refine Iv_new (by assumption) (by assumption) (by assumption) | refine Iv_th (by assumption) | refine Iv_u ?_ ?_ | refine Iv_cp ?_ ?_ | apply And.intro))
set_option maxRecDepth 100000 in
set_option maxHeartbeats 4000000 in
theorem hc_gX4_expect (h00 : W 0) {n : Nat} {r0 : Nat} {x1 : Int32} {M : ao_M} {ρ : ao_H} (hI : Iv W M0 ρ0 M ρ) (h_r0 : W r0) : ∀ z, gX4_expect n r0 x1 M ρ = some z → Iv W M0 ρ0 z.2 ρ := by
  unfold gX4_expect
  repeat' (with_reducible (first | exact f_none | refine f_ite (fun hc => ?_) (fun hc => ?_) | refine f_letM (Iv_u (by assumption) ?_) (fun M' hM' => ?_) | refine f_letI (fun v => ?_) | refine f_cs (fun x => ?_) (fun E => ?_) | refine f_letM (Iv_cp (by assumption) ?_) (fun M' hM' => ?_) | refine f_letM (by assumption) (fun M' hM' => ?_) | refine f_bind (hc_gX9_advance h00 (by assumption) ?_) (fun y hy => ?_) | refine f_bind (hc_gX4_broken h00 (by assumption) ?_) (fun y hy => ?_)  | refine f_bindF (by assumption) ?_ (fun j hj => ?_) | refine f_bindZ (by assumption) (fun j hj hz => ?_) | refine f_some ?_ | assumption | exact okl (by assumption) | exact okw (by assumption) (by assumption) (by assumption) (by decide) | exact h00 | refine Iv_u (by assumption) ?_ | refine Iv_cp (by assumption) ?_ | refine Iv_r ?_ ?_ ?_ | refine Iv_new (by assumption) (by assumption) (by assumption) | refine Iv_th (by assumption) | refine Iv_u ?_ ?_ | refine Iv_cp ?_ ?_ | apply And.intro))
set_option maxRecDepth 100000 in
set_option maxHeartbeats 4000000 in
theorem hc_gX4_expectNested (h00 : W 0) {n : Nat} {r0 : Nat} {x1 : Int32} {x2 : Int32} {M : ao_M} {ρ : ao_H} (hI : Iv W M0 ρ0 M ρ) (h_r0 : W r0) : ∀ z, gX4_expectNested n r0 x1 x2 M ρ = some z → Iv W M0 ρ0 z.2 ρ := by
  unfold gX4_expectNested
  repeat' (with_reducible (first | exact f_none | refine f_ite (fun hc => ?_) (fun hc => ?_) | refine f_letM (Iv_u (by assumption) ?_) (fun M' hM' => ?_) | refine f_letI (fun v => ?_) | refine f_cs (fun x => ?_) (fun E => ?_) | refine f_letM (Iv_cp (by assumption) ?_) (fun M' hM' => ?_) | refine f_letM (by assumption) (fun M' hM' => ?_) | refine f_bind (hc_gX4_broken h00 (by assumption) ?_) (fun y hy => ?_) | refine f_bind (hc_gX4_expect h00 (by assumption) ?_) (fun y hy => ?_)  | refine f_bindF (by assumption) ?_ (fun j hj => ?_) | refine f_bindZ (by assumption) (fun j hj hz => ?_) | refine f_some ?_ | assumption | exact okl (by assumption) | exact okw (by assumption) (by assumption) (by assumption) (by decide) | exact h00 | refine Iv_u (by assumption) ?_ | refine Iv_cp (by assumption) ?_ | refine Iv_r ?_ ?_ ?_ | refine Iv_new (by assumption) (by assumption) (by assumption) | refine Iv_th (by assumption) | refine Iv_u ?_ ?_ | refine Iv_cp ?_ ?_ | apply And.intro))
set_option maxRecDepth 100000 in
set_option maxHeartbeats 4000000 in
theorem hc_gX1_add (h00 : W 0) {r0 : Nat} {x1 : Int32} {x2 : Int32} {M : ao_M} {ρ : ao_H} (hI : Iv W M0 ρ0 M ρ) (h_r0 : W r0) : ∀ z, gX1_add r0 x1 x2 M ρ = some z → Iv W M0 ρ0 z.2 ρ := by
  unfold gX1_add
  repeat' (with_reducible (first | exact f_none | refine f_ite (fun hc => ?_) (fun hc => ?_) | refine f_letM (Iv_u (by assumption) ?_) (fun M' hM' => ?_) | refine f_letI (fun v => ?_) | refine f_cs (fun x => ?_) (fun E => ?_) | refine f_letM (Iv_cp (by assumption) ?_) (fun M' hM' => ?_) | refine f_letM (by assumption) (fun M' hM' => ?_)  | refine f_bindF (by assumption) ?_ (fun j hj => ?_) | refine f_bindZ (by assumption) (fun j hj hz => ?_) | refine f_some ?_ | assumption | exact okl (by assumption) | exact okw (by assumption) (by assumption) (by assumption) (by decide) | exact h00 | refine Iv_u (by assumption) ?_ | refine Iv_cp (by assumption) ?_ | refine Iv_r ?_ ?_ ?_ | refine Iv_new (by assumption) (by assumption) (by assumption) | refine Iv_th (by assumption) | refine Iv_u ?_ ?_ | refine Iv_cp ?_ ?_ | apply And.intro))
set_option maxRecDepth 100000 in
set_option maxHeartbeats 4000000 in
theorem hc_gX4_leaf (h00 : W 0) {n : Nat} {r0 : Nat} {x1 : Int32} {M : ao_M} {ρ : ao_H} (hI : Iv W M0 ρ0 M ρ) (h_r0 : W r0) : ∀ z, gX4_leaf n r0 x1 M ρ = some z → Iv W M0 ρ0 z.2 ρ := by
  unfold gX4_leaf
  repeat' (with_reducible (first | exact f_none | refine f_ite (fun hc => ?_) (fun hc => ?_) | refine f_letM (Iv_u (by assumption) ?_) (fun M' hM' => ?_) | refine f_letI (fun v => ?_) | refine f_cs (fun x => ?_) (fun E => ?_) | refine f_letM (Iv_cp (by assumption) ?_) (fun M' hM' => ?_) | refine f_letM (by assumption) (fun M' hM' => ?_) | refine f_bind (hc_gX1_add h00 (by assumption) ?_) (fun y hy => ?_) | refine f_bind (hc_gX9_advance h00 (by assumption) ?_) (fun y hy => ?_)  | refine f_bindF (by assumption) ?_ (fun j hj => ?_) | refine f_bindZ (by assumption) (fun j hj hz => ?_) | refine f_some ?_ | assumption | exact okl (by assumption) | exact okw (by assumption) (by assumption) (by assumption) (by decide) | exact h00 | refine Iv_u (by assumption) ?_ | refine Iv_cp (by assumption) ?_ | refine Iv_r ?_ ?_ ?_ | refine Iv_new (by assumption) (by assumption) (by assumption) | refine Iv_th (by assumption) | refine Iv_u ?_ ?_ | refine Iv_cp ?_ ?_ | apply And.intro))
set_option maxRecDepth 100000 in
set_option maxHeartbeats 4000000 in
theorem hc_fGX (h00 : W 0) : ∀ (n : Nat) (e : Nat) (pc : Nat) (r0 : Nat) (x1 : Int32) (x2 : Int32) (x3 : Int32) (s0 : Int32) (q1 : Nat) (M : ao_M) (ρ : ao_H), Iv W M0 ρ0 M ρ → W r0 → W q1 → ∀ z, fGX n e pc r0 x1 x2 x3 s0 q1 M ρ = some z → Iv W M0 ρ0 z.2 ρ := by
  intro n
  induction n with
  | zero => intros; exact absurd (by assumption) (by simp [fGX.eq_1])
  | succ n ih =>
    intro e pc r0 x1 x2 x3 s0 q1 M ρ hI h_r0 h_q1
    rw [fGX.eq_2]
    repeat' (with_reducible (first | exact f_none | refine f_ite (fun hc => ?_) (fun hc => ?_) | refine f_letM (Iv_u (by assumption) ?_) (fun M' hM' => ?_) | refine f_letI (fun v => ?_) | refine f_cs (fun x => ?_) (fun E => ?_) | refine f_letM (Iv_cp (by assumption) ?_) (fun M' hM' => ?_) | refine f_letM (by assumption) (fun M' hM' => ?_) | refine ih _ _ _ _ _ _ _ _ _ _ (by assumption) ?_ ?_ | refine ih _ _ _ _ _ _ _ _ _ _ ?_ ?_ ?_ | refine f_bind (ih _ _ _ _ _ _ _ _ _ _ (by assumption) ?_ ?_) (fun y hy => ?_) | refine f_bind (hc_gX9_advance h00 (by assumption) ?_) (fun y hy => ?_) | refine f_bind (hc_gX1_add h00 (by assumption) ?_) (fun y hy => ?_) | refine f_bind (hc_gX4_broken h00 (by assumption) ?_) (fun y hy => ?_) | refine f_bind (hc_gX4_leaf h00 (by assumption) ?_) (fun y hy => ?_) | refine f_bind (hc_gX4_expectNested h00 (by assumption) ?_) (fun y hy => ?_) | refine f_bind (hc_gX4_expect h00 (by assumption) ?_) (fun y hy => ?_)  | refine f_bindF (by assumption) ?_ (fun j hj => ?_) | refine f_bindZ (by assumption) (fun j hj hz => ?_) | refine f_some ?_ | assumption | exact okl (by assumption) | exact okw (by assumption) (by assumption) (by assumption) (by decide) | exact h00 | refine Iv_u (by assumption) ?_ | refine Iv_cp (by assumption) ?_ | refine Iv_r ?_ ?_ ?_ | refine Iv_new (by assumption) (by assumption) (by assumption) | refine Iv_th (by assumption) | refine Iv_u ?_ ?_ | refine Iv_cp ?_ ?_ | apply And.intro))
set_option maxRecDepth 100000 in
set_option maxHeartbeats 4000000 in
theorem hc_gX4_expression (h00 : W 0) {n : Nat} {r0 : Nat} {x1 : Int32} {M : ao_M} {ρ : ao_H} (hI : Iv W M0 ρ0 M ρ) (h_r0 : W r0) : ∀ z, gX4_expression n r0 x1 M ρ = some z → Iv W M0 ρ0 z.2 ρ := by
  unfold gX4_expression
  exact hc_fGX h00 _ _ _ _ _ _ _ _ _ _ _ hI (by first | assumption | exact h00 | exact fun h => absurd h (by decide)) (by first | assumption | exact h00 | exact fun h => absurd h (by decide))
set_option maxRecDepth 100000 in
set_option maxHeartbeats 4000000 in
theorem hc_gX4_assignment (h00 : W 0) {n : Nat} {r0 : Nat} {x1 : Int32} {x2 : Int32} {M : ao_M} {ρ : ao_H} (hI : Iv W M0 ρ0 M ρ) (h_r0 : W r0) : ∀ z, gX4_assignment n r0 x1 x2 M ρ = some z → Iv W M0 ρ0 z.2 ρ := by
  unfold gX4_assignment
  repeat' (with_reducible (first | exact f_none | refine f_ite (fun hc => ?_) (fun hc => ?_) | refine f_letM (Iv_u (by assumption) ?_) (fun M' hM' => ?_) | refine f_letI (fun v => ?_) | refine f_cs (fun x => ?_) (fun E => ?_) | refine f_letM (Iv_cp (by assumption) ?_) (fun M' hM' => ?_) | refine f_letM (by assumption) (fun M' hM' => ?_) | refine f_bind (hc_gX9_advance h00 (by assumption) ?_) (fun y hy => ?_) | refine f_bind (hc_gX4_expect h00 (by assumption) ?_) (fun y hy => ?_) | refine f_bind (hc_gX4_expression h00 (by assumption) ?_) (fun y hy => ?_) | refine f_bind (hc_gX1_add h00 (by assumption) ?_) (fun y hy => ?_)  | refine f_bindF (by assumption) ?_ (fun j hj => ?_) | refine f_bindZ (by assumption) (fun j hj hz => ?_) | refine f_some ?_ | assumption | exact okl (by assumption) | exact okw (by assumption) (by assumption) (by assumption) (by decide) | exact h00 | refine Iv_u (by assumption) ?_ | refine Iv_cp (by assumption) ?_ | refine Iv_r ?_ ?_ ?_ | refine Iv_new (by assumption) (by assumption) (by assumption) | refine Iv_th (by assumption) | refine Iv_u ?_ ?_ | refine Iv_cp ?_ ?_ | apply And.intro))
set_option maxRecDepth 100000 in
set_option maxHeartbeats 4000000 in
theorem hc_gX4_valueStatement (h00 : W 0) {n : Nat} {r0 : Nat} {x1 : Int32} {x2 : Int32} {M : ao_M} {ρ : ao_H} (hI : Iv W M0 ρ0 M ρ) (h_r0 : W r0) : ∀ z, gX4_valueStatement n r0 x1 x2 M ρ = some z → Iv W M0 ρ0 z.2 ρ := by
  unfold gX4_valueStatement
  repeat' (with_reducible (first | exact f_none | refine f_ite (fun hc => ?_) (fun hc => ?_) | refine f_letM (Iv_u (by assumption) ?_) (fun M' hM' => ?_) | refine f_letI (fun v => ?_) | refine f_cs (fun x => ?_) (fun E => ?_) | refine f_letM (Iv_cp (by assumption) ?_) (fun M' hM' => ?_) | refine f_letM (by assumption) (fun M' hM' => ?_) | refine f_bind (hc_gX9_advance h00 (by assumption) ?_) (fun y hy => ?_) | refine f_bind (hc_gX4_expression h00 (by assumption) ?_) (fun y hy => ?_) | refine f_bind (hc_gX1_add h00 (by assumption) ?_) (fun y hy => ?_) | refine f_bind (hc_gX4_expect h00 (by assumption) ?_) (fun y hy => ?_)  | refine f_bindF (by assumption) ?_ (fun j hj => ?_) | refine f_bindZ (by assumption) (fun j hj hz => ?_) | refine f_some ?_ | assumption | exact okl (by assumption) | exact okw (by assumption) (by assumption) (by assumption) (by decide) | exact h00 | refine Iv_u (by assumption) ?_ | refine Iv_cp (by assumption) ?_ | refine Iv_r ?_ ?_ ?_ | refine Iv_new (by assumption) (by assumption) (by assumption) | refine Iv_th (by assumption) | refine Iv_u ?_ ?_ | refine Iv_cp ?_ ?_ | apply And.intro))
set_option maxRecDepth 100000 in
set_option maxHeartbeats 4000000 in
theorem hc_gX4_bareStatement (h00 : W 0) {n : Nat} {r0 : Nat} {x1 : Int32} {x2 : Int32} {M : ao_M} {ρ : ao_H} (hI : Iv W M0 ρ0 M ρ) (h_r0 : W r0) : ∀ z, gX4_bareStatement n r0 x1 x2 M ρ = some z → Iv W M0 ρ0 z.2 ρ := by
  unfold gX4_bareStatement
  repeat' (with_reducible (first | exact f_none | refine f_ite (fun hc => ?_) (fun hc => ?_) | refine f_letM (Iv_u (by assumption) ?_) (fun M' hM' => ?_) | refine f_letI (fun v => ?_) | refine f_cs (fun x => ?_) (fun E => ?_) | refine f_letM (Iv_cp (by assumption) ?_) (fun M' hM' => ?_) | refine f_letM (by assumption) (fun M' hM' => ?_) | refine f_bind (hc_gX4_broken h00 (by assumption) ?_) (fun y hy => ?_) | refine f_bind (hc_gX9_advance h00 (by assumption) ?_) (fun y hy => ?_) | refine f_bind (hc_gX1_add h00 (by assumption) ?_) (fun y hy => ?_) | refine f_bind (hc_gX4_expect h00 (by assumption) ?_) (fun y hy => ?_)  | refine f_bindF (by assumption) ?_ (fun j hj => ?_) | refine f_bindZ (by assumption) (fun j hj hz => ?_) | refine f_some ?_ | assumption | exact okl (by assumption) | exact okw (by assumption) (by assumption) (by assumption) (by decide) | exact h00 | refine Iv_u (by assumption) ?_ | refine Iv_cp (by assumption) ?_ | refine Iv_r ?_ ?_ ?_ | refine Iv_new (by assumption) (by assumption) (by assumption) | refine Iv_th (by assumption) | refine Iv_u ?_ ?_ | refine Iv_cp ?_ ?_ | apply And.intro))
set_option maxRecDepth 100000 in
set_option maxHeartbeats 4000000 in
theorem hc_gX4_condition (h00 : W 0) {n : Nat} {r0 : Nat} {x1 : Int32} {M : ao_M} {ρ : ao_H} (hI : Iv W M0 ρ0 M ρ) (h_r0 : W r0) : ∀ z, gX4_condition n r0 x1 M ρ = some z → Iv W M0 ρ0 z.2 ρ := by
  unfold gX4_condition
  repeat' (with_reducible (first | exact f_none | refine f_ite (fun hc => ?_) (fun hc => ?_) | refine f_letM (Iv_u (by assumption) ?_) (fun M' hM' => ?_) | refine f_letI (fun v => ?_) | refine f_cs (fun x => ?_) (fun E => ?_) | refine f_letM (Iv_cp (by assumption) ?_) (fun M' hM' => ?_) | refine f_letM (by assumption) (fun M' hM' => ?_) | refine f_bind (hc_gX9_advance h00 (by assumption) ?_) (fun y hy => ?_) | refine f_bind (hc_gX4_expectNested h00 (by assumption) ?_) (fun y hy => ?_) | refine f_bind (hc_gX4_expression h00 (by assumption) ?_) (fun y hy => ?_) | refine f_bind (hc_gX4_expect h00 (by assumption) ?_) (fun y hy => ?_)  | refine f_bindF (by assumption) ?_ (fun j hj => ?_) | refine f_bindZ (by assumption) (fun j hj hz => ?_) | refine f_some ?_ | assumption | exact okl (by assumption) | exact okw (by assumption) (by assumption) (by assumption) (by decide) | exact h00 | refine Iv_u (by assumption) ?_ | refine Iv_cp (by assumption) ?_ | refine Iv_r ?_ ?_ ?_ | refine Iv_new (by assumption) (by assumption) (by assumption) | refine Iv_th (by assumption) | refine Iv_u ?_ ?_ | refine Iv_cp ?_ ?_ | apply And.intro))
set_option maxRecDepth 100000 in
set_option maxHeartbeats 4000000 in
theorem hc_gX1_setFirst (h00 : W 0) {r0 : Nat} {x1 : Int32} {x2 : Int32} {M : ao_M} {ρ : ao_H} (hI : Iv W M0 ρ0 M ρ) (h_r0 : W r0) : ∀ z, gX1_setFirst r0 x1 x2 M ρ = some z → Iv W M0 ρ0 z ρ := by
  unfold gX1_setFirst
  repeat' (with_reducible (first | exact f_none | refine f_ite (fun hc => ?_) (fun hc => ?_) | refine f_letM (Iv_u (by assumption) ?_) (fun M' hM' => ?_) | refine f_letI (fun v => ?_) | refine f_cs (fun x => ?_) (fun E => ?_) | refine f_letM (Iv_cp (by assumption) ?_) (fun M' hM' => ?_) | refine f_letM (by assumption) (fun M' hM' => ?_)  | refine f_bindF (by assumption) ?_ (fun j hj => ?_) | refine f_bindZ (by assumption) (fun j hj hz => ?_) | refine f_some ?_ | assumption | exact okl (by assumption) | exact okw (by assumption) (by assumption) (by assumption) (by decide) | exact h00 | refine Iv_u (by assumption) ?_ | refine Iv_cp (by assumption) ?_ | refine Iv_r ?_ ?_ ?_ | refine Iv_new (by assumption) (by assumption) (by assumption) | refine Iv_th (by assumption) | refine Iv_u ?_ ?_ | refine Iv_cp ?_ ?_ | apply And.intro))
set_option maxRecDepth 100000 in
set_option maxHeartbeats 4000000 in
theorem hc_gX1_setOp (h00 : W 0) {r0 : Nat} {x1 : Int32} {x2 : Int32} {M : ao_M} {ρ : ao_H} (hI : Iv W M0 ρ0 M ρ) (h_r0 : W r0) : ∀ z, gX1_setOp r0 x1 x2 M ρ = some z → Iv W M0 ρ0 z ρ := by
  unfold gX1_setOp
  repeat' (with_reducible (first | exact f_none | refine f_ite (fun hc => ?_) (fun hc => ?_) | refine f_letM (Iv_u (by assumption) ?_) (fun M' hM' => ?_) | refine f_letI (fun v => ?_) | refine f_cs (fun x => ?_) (fun E => ?_) | refine f_letM (Iv_cp (by assumption) ?_) (fun M' hM' => ?_) | refine f_letM (by assumption) (fun M' hM' => ?_)  | refine f_bindF (by assumption) ?_ (fun j hj => ?_) | refine f_bindZ (by assumption) (fun j hj hz => ?_) | refine f_some ?_ | assumption | exact okl (by assumption) | exact okw (by assumption) (by assumption) (by assumption) (by decide) | exact h00 | refine Iv_u (by assumption) ?_ | refine Iv_cp (by assumption) ?_ | refine Iv_r ?_ ?_ ?_ | refine Iv_new (by assumption) (by assumption) (by assumption) | refine Iv_th (by assumption) | refine Iv_u ?_ ?_ | refine Iv_cp ?_ ?_ | apply And.intro))
set_option maxRecDepth 100000 in
set_option maxHeartbeats 4000000 in
theorem hc_gX1_setSecond (h00 : W 0) {r0 : Nat} {x1 : Int32} {x2 : Int32} {M : ao_M} {ρ : ao_H} (hI : Iv W M0 ρ0 M ρ) (h_r0 : W r0) : ∀ z, gX1_setSecond r0 x1 x2 M ρ = some z → Iv W M0 ρ0 z ρ := by
  unfold gX1_setSecond
  repeat' (with_reducible (first | exact f_none | refine f_ite (fun hc => ?_) (fun hc => ?_) | refine f_letM (Iv_u (by assumption) ?_) (fun M' hM' => ?_) | refine f_letI (fun v => ?_) | refine f_cs (fun x => ?_) (fun E => ?_) | refine f_letM (Iv_cp (by assumption) ?_) (fun M' hM' => ?_) | refine f_letM (by assumption) (fun M' hM' => ?_)  | refine f_bindF (by assumption) ?_ (fun j hj => ?_) | refine f_bindZ (by assumption) (fun j hj hz => ?_) | refine f_some ?_ | assumption | exact okl (by assumption) | exact okw (by assumption) (by assumption) (by assumption) (by decide) | exact h00 | refine Iv_u (by assumption) ?_ | refine Iv_cp (by assumption) ?_ | refine Iv_r ?_ ?_ ?_ | refine Iv_new (by assumption) (by assumption) (by assumption) | refine Iv_th (by assumption) | refine Iv_u ?_ ?_ | refine Iv_cp ?_ ?_ | apply And.intro))
set_option maxRecDepth 100000 in
set_option maxHeartbeats 4000000 in
theorem hc_fGS (h00 : W 0) : ∀ (n : Nat) (e : Nat) (pc : Nat) (r0 : Nat) (x1 : Int32) (x2 : Int32) (x3 : Int32) (x4 : Int32) (M : ao_M) (ρ : ao_H), Iv W M0 ρ0 M ρ → W r0 → ∀ z, fGS n e pc r0 x1 x2 x3 x4 M ρ = some z → Iv W M0 ρ0 z.2 ρ := by
  intro n
  induction n with
  | zero => intros; exact absurd (by assumption) (by simp [fGS.eq_1])
  | succ n ih =>
    intro e pc r0 x1 x2 x3 x4 M ρ hI h_r0
    rw [fGS.eq_2]
    repeat' (with_reducible (first | exact f_none | refine f_ite (fun hc => ?_) (fun hc => ?_) | refine f_letM (Iv_u (by assumption) ?_) (fun M' hM' => ?_) | refine f_letI (fun v => ?_) | refine f_cs (fun x => ?_) (fun E => ?_) | refine f_letM (Iv_cp (by assumption) ?_) (fun M' hM' => ?_) | refine f_letM (by assumption) (fun M' hM' => ?_) | refine ih _ _ _ _ _ _ _ _ _ (by assumption) ?_ | refine ih _ _ _ _ _ _ _ _ _ _ ?_ ?_ | refine f_bind (ih _ _ _ _ _ _ _ _ _ (by assumption) ?_) (fun y hy => ?_) | refine f_bind (hc_gX4_broken h00 (by assumption) ?_) (fun y hy => ?_) | refine f_bind (hc_gX4_expectNested h00 (by assumption) ?_) (fun y hy => ?_) | refine f_bind (hc_gX4_expect h00 (by assumption) ?_) (fun y hy => ?_) | refine f_bind (hc_gX4_assignment h00 (by assumption) ?_) (fun y hy => ?_) | refine f_bind (hc_gX4_valueStatement h00 (by assumption) ?_) (fun y hy => ?_) | refine f_bind (hc_gX4_bareStatement h00 (by assumption) ?_) (fun y hy => ?_) | refine f_bind (hc_gX4_condition h00 (by assumption) ?_) (fun y hy => ?_) | refine f_bind (hc_gX1_add h00 (by assumption) ?_) (fun y hy => ?_) | refine f_bind (hc_gX9_advance h00 (by assumption) ?_) (fun y hy => ?_) | refine f_bind (hc_gX1_setFirst h00 (by assumption) ?_) (fun y hy => ?_) | refine f_bind (hc_gX1_setOp h00 (by assumption) ?_) (fun y hy => ?_) | refine f_bind (hc_gX1_setSecond h00 (by assumption) ?_) (fun y hy => ?_)  | refine f_bindF (by assumption) ?_ (fun j hj => ?_) | refine f_bindZ (by assumption) (fun j hj hz => ?_) | refine f_some ?_ | assumption | exact okl (by assumption) | exact okw (by assumption) (by assumption) (by assumption) (by decide) | exact h00 | refine Iv_u (by assumption) ?_ | refine Iv_cp (by assumption) ?_ | refine Iv_r ?_ ?_ ?_ | refine Iv_new (by assumption) (by assumption) (by assumption) | refine Iv_th (by assumption) | refine Iv_u ?_ ?_ | refine Iv_cp ?_ ?_ | apply And.intro))
set_option maxRecDepth 100000 in
set_option maxHeartbeats 4000000 in
theorem hc_gX4_statements (h00 : W 0) {n : Nat} {r0 : Nat} {x1 : Int32} {x2 : Int32} {M : ao_M} {ρ : ao_H} (hI : Iv W M0 ρ0 M ρ) (h_r0 : W r0) : ∀ z, gX4_statements n r0 x1 x2 M ρ = some z → Iv W M0 ρ0 z.2 ρ := by
  unfold gX4_statements
  exact hc_fGS h00 _ _ _ _ _ _ _ _ _ _ hI (by first | assumption | exact h00 | exact fun h => absurd h (by decide))
set_option maxRecDepth 100000 in
set_option maxHeartbeats 4000000 in
theorem hc_fX4_parse (h00 : W 0) : ∀ (n : Nat) (pc : Nat) (r0 : Nat) (r1 : Nat) (x2 : Int32) (M : ao_M) (ρ : ao_H), Iv W M0 ρ0 M ρ → W r0 → W r1 → ∀ z, fX4_parse n pc r0 r1 x2 M ρ = some z → Iv W M0 ρ0 z.2.1 z.2.2 := by
  intro n
  induction n with
  | zero => intros; exact absurd (by assumption) (by simp [fX4_parse.eq_1])
  | succ n ih =>
    intro pc r0 r1 x2 M ρ hI h_r0 h_r1
    rw [fX4_parse.eq_2]
    repeat' (with_reducible (first | exact f_none | refine f_ite (fun hc => ?_) (fun hc => ?_) | refine f_letM (Iv_u (by assumption) ?_) (fun M' hM' => ?_) | refine f_letI (fun v => ?_) | refine f_cs (fun x => ?_) (fun E => ?_) | refine f_letM (Iv_cp (by assumption) ?_) (fun M' hM' => ?_) | refine f_letM (by assumption) (fun M' hM' => ?_) | refine ih _ _ _ _ _ _ (by assumption) ?_ ?_ | refine ih _ _ _ _ _ _ ?_ ?_ ?_ | refine f_bind (ih _ _ _ _ _ _ (by assumption) ?_ ?_) (fun y hy => ?_) | refine f_bind (hc_gX1_clear h00 (by assumption) ?_) (fun y hy => ?_) | refine f_bind (hc_gX9_read h00 (by assumption) ?_ ?_) (fun y hy => ?_) | refine f_bind (hc_gX4_statements h00 (by assumption) ?_) (fun y hy => ?_) | refine f_bind (hc_gX4_broken h00 (by assumption) ?_) (fun y hy => ?_)  | refine f_bindF (by assumption) ?_ (fun j hj => ?_) | refine f_bindZ (by assumption) (fun j hj hz => ?_) | refine f_some ?_ | assumption | exact okl (by assumption) | exact okw (by assumption) (by assumption) (by assumption) (by decide) | exact h00 | refine Iv_u (by assumption) ?_ | refine Iv_cp (by assumption) ?_ | refine Iv_r ?_ ?_ ?_ | refine Iv_new (by assumption) (by assumption) (by assumption) | refine Iv_th (by assumption) | refine Iv_u ?_ ?_ | refine Iv_cp ?_ ?_ | apply And.intro))
set_option maxRecDepth 100000 in
set_option maxHeartbeats 4000000 in
theorem hc_gX4_parse (h00 : W 0) {n : Nat} {r0 : Nat} {r1 : Nat} {x2 : Int32} {M : ao_M} {ρ : ao_H} (hI : Iv W M0 ρ0 M ρ) (h_r0 : W r0) (h_r1 : W r1) : ∀ z, gX4_parse n r0 r1 x2 M ρ = some z → Iv W M0 ρ0 z.2.1 z.2.2 := by
  unfold gX4_parse
  exact hc_fX4_parse h00 _ _ _ _ _ _ _ hI (by first | assumption | exact h00 | exact fun h => absurd h (by decide)) (by first | assumption | exact h00 | exact fun h => absurd h (by decide))
set_option maxRecDepth 100000 in
set_option maxHeartbeats 4000000 in
theorem hc_fX1_init (h00 : W 0) : ∀ (n : Nat) (pc : Nat) (r0 : Nat) (x1 : Int32) (q0 : Nat) (s0 : Int32) (q1 : Nat) (M : ao_M) (ρ : ao_H), Iv W M0 ρ0 M ρ → W r0 → W q0 → W q1 → ∀ z, fX1_init n pc r0 x1 q0 s0 q1 M ρ = some z → Iv W M0 ρ0 z.1 z.2 := by
  intro n
  induction n with
  | zero => intros; exact absurd (by assumption) (by simp [fX1_init.eq_1])
  | succ n ih =>
    intro pc r0 x1 q0 s0 q1 M ρ hI h_r0 h_q0 h_q1
    rw [fX1_init.eq_2]
    repeat' (with_reducible (first | exact f_none | refine f_ite (fun hc => ?_) (fun hc => ?_) | refine f_letM (Iv_u (by assumption) ?_) (fun M' hM' => ?_) | refine f_letI (fun v => ?_) | refine f_cs (fun x => ?_) (fun E => ?_) | refine f_letM (Iv_cp (by assumption) ?_) (fun M' hM' => ?_) | refine f_letM (by assumption) (fun M' hM' => ?_) | refine ih _ _ _ _ _ _ _ _ (by assumption) ?_ ?_ ?_ | refine ih _ _ _ _ _ _ _ _ ?_ ?_ ?_ ?_ | refine f_bind (ih _ _ _ _ _ _ _ _ (by assumption) ?_ ?_ ?_) (fun y hy => ?_)  | refine f_bindF (by assumption) ?_ (fun j hj => ?_) | refine f_bindZ (by assumption) (fun j hj hz => ?_) | refine f_some ?_ | assumption | exact okl (by assumption) | exact okw (by assumption) (by assumption) (by assumption) (by decide) | exact h00 | refine Iv_u (by assumption) ?_ | refine Iv_cp (by assumption) ?_ | refine Iv_r ?_ ?_ ?_ | refine Iv_new (by assumption) (by assumption) (by assumption) | refine Iv_th (by assumption) | refine Iv_u ?_ ?_ | refine Iv_cp ?_ ?_ | apply And.intro))
set_option maxRecDepth 100000 in
set_option maxHeartbeats 4000000 in
theorem hc_gX1_init (h00 : W 0) {n : Nat} {r0 : Nat} {x1 : Int32} {M : ao_M} {ρ : ao_H} (hI : Iv W M0 ρ0 M ρ) (h_r0 : W r0) : ∀ z, gX1_init n r0 x1 M ρ = some z → Iv W M0 ρ0 z.1 z.2 := by
  unfold gX1_init
  exact hc_fX1_init h00 _ _ _ _ _ _ _ _ _ hI (by first | assumption | exact h00 | exact fun h => absurd h (by decide)) (by first | assumption | exact h00 | exact fun h => absurd h (by decide)) (by first | assumption | exact h00 | exact fun h => absurd h (by decide))
set_option maxRecDepth 100000 in
set_option maxHeartbeats 4000000 in
theorem hc_fX1_copy (h00 : W 0) : ∀ (n : Nat) (pc : Nat) (r0 : Nat) (r1 : Nat) (x2 : Int32) (q0 : Nat) (M : ao_M) (ρ : ao_H), Iv W M0 ρ0 M ρ → W r0 → W r1 → W q0 → ∀ z, fX1_copy n pc r0 r1 x2 q0 M ρ = some z → (Iv W M0 ρ0 z.2.1 z.2.2 ∧ W z.1) := by
  intro n
  induction n with
  | zero => intros; exact absurd (by assumption) (by simp [fX1_copy.eq_1])
  | succ n ih =>
    intro pc r0 r1 x2 q0 M ρ hI h_r0 h_r1 h_q0
    rw [fX1_copy.eq_2]
    repeat' (with_reducible (first | exact f_none | refine f_ite (fun hc => ?_) (fun hc => ?_) | refine f_letM (Iv_u (by assumption) ?_) (fun M' hM' => ?_) | refine f_letI (fun v => ?_) | refine f_cs (fun x => ?_) (fun E => ?_) | refine f_letM (Iv_cp (by assumption) ?_) (fun M' hM' => ?_) | refine f_letM (by assumption) (fun M' hM' => ?_) | refine ih _ _ _ _ _ _ _ (by assumption) ?_ ?_ ?_ | refine ih _ _ _ _ _ _ _ ?_ ?_ ?_ ?_ | refine f_bind (ih _ _ _ _ _ _ _ (by assumption) ?_ ?_ ?_) (fun y hy => ?_) | refine f_bind (hc_gX1_init h00 (by assumption) ?_) (fun y hy => ?_)  | refine f_bindF (by assumption) ?_ (fun j hj => ?_) | refine f_bindZ (by assumption) (fun j hj hz => ?_) | refine f_some ?_ | assumption | exact okl (by assumption) | exact okw (by assumption) (by assumption) (by assumption) (by decide) | exact h00 | refine Iv_u (by assumption) ?_ | refine Iv_cp (by assumption) ?_ | refine Iv_r ?_ ?_ ?_ | refine Iv_new (by assumption) (by assumption) (by assumption) | refine Iv_th (by assumption) | refine Iv_u ?_ ?_ | refine Iv_cp ?_ ?_ | apply And.intro))
set_option maxRecDepth 100000 in
set_option maxHeartbeats 4000000 in
theorem hc_gX1_copy (h00 : W 0) {n : Nat} {r0 : Nat} {M : ao_M} {ρ : ao_H} (hI : Iv W M0 ρ0 M ρ) (h_r0 : W r0) : ∀ z, gX1_copy n r0 M ρ = some z → (Iv W M0 ρ0 z.2.1 z.2.2 ∧ W z.1) := by
  unfold gX1_copy
  exact hc_fX1_copy h00 _ _ _ _ _ _ _ _ hI (by first | assumption | exact h00 | exact fun h => absurd h (by decide)) (by first | assumption | exact h00 | exact fun h => absurd h (by decide)) (by first | assumption | exact h00 | exact fun h => absurd h (by decide))
set_option maxRecDepth 100000 in
set_option maxHeartbeats 4000000 in
theorem hc_fX10_program (h00 : W 0) : ∀ (n : Nat) (pc : Nat) (r0 : Nat) (x1 : Int32) (x2 : Int32) (r3 : Nat) (q0 : Nat) (s0 : Int32) (q1 : Nat) (M : ao_M) (ρ : ao_H), Iv W M0 ρ0 M ρ → W r0 → W r3 → W q0 → W q1 → ∀ z, fX10_program n pc r0 x1 x2 r3 q0 s0 q1 M ρ = some z → Iv W M0 ρ0 z.2.1 z.2.2 := by
  intro n
  induction n with
  | zero => intros; exact absurd (by assumption) (by simp [fX10_program.eq_1])
  | succ n ih =>
    intro pc r0 x1 x2 r3 q0 s0 q1 M ρ hI h_r0 h_r3 h_q0 h_q1
    rw [fX10_program.eq_2]
    repeat' (with_reducible (first | exact f_none | refine f_ite (fun hc => ?_) (fun hc => ?_) | refine f_letM (Iv_u (by assumption) ?_) (fun M' hM' => ?_) | refine f_letI (fun v => ?_) | refine f_cs (fun x => ?_) (fun E => ?_) | refine f_letM (Iv_cp (by assumption) ?_) (fun M' hM' => ?_) | refine f_letM (by assumption) (fun M' hM' => ?_) | refine ih _ _ _ _ _ _ _ _ _ _ (by assumption) ?_ ?_ ?_ ?_ | refine ih _ _ _ _ _ _ _ _ _ _ ?_ ?_ ?_ ?_ ?_ | refine f_bind (ih _ _ _ _ _ _ _ _ _ _ (by assumption) ?_ ?_ ?_ ?_) (fun y hy => ?_) | refine f_bind (hc_gX4_parse h00 (by assumption) ?_ ?_) (fun y hy => ?_) | refine f_bind2 (hc_gX1_copy h00 (by assumption) ?_) (fun y hy1 hy2 => ?_) | refine f_bind (hc_gX7_renew h00 (by assumption) ?_) (fun y hy => ?_)  | refine f_bindF (by assumption) ?_ (fun j hj => ?_) | refine f_bindZ (by assumption) (fun j hj hz => ?_) | refine f_some ?_ | assumption | exact okl (by assumption) | exact okw (by assumption) (by assumption) (by assumption) (by decide) | exact h00 | refine Iv_u (by assumption) ?_ | refine Iv_cp (by assumption) ?_ | refine Iv_r ?_ ?_ ?_ | refine Iv_new (by assumption) (by assumption) (by assumption) | refine Iv_th (by assumption) | refine Iv_u ?_ ?_ | refine Iv_cp ?_ ?_ | apply And.intro))
set_option maxRecDepth 100000 in
set_option maxHeartbeats 4000000 in
theorem hc_gX10_program (h00 : W 0) {n : Nat} {r0 : Nat} {x1 : Int32} {M : ao_M} {ρ : ao_H} (hI : Iv W M0 ρ0 M ρ) (h_r0 : W r0) : ∀ z, gX10_program n r0 x1 M ρ = some z → Iv W M0 ρ0 z.2.1 z.2.2 := by
  unfold gX10_program
  exact hc_fX10_program h00 _ _ _ _ _ _ _ _ _ _ _ hI (by first | assumption | exact h00 | exact fun h => absurd h (by decide)) (by first | assumption | exact h00 | exact fun h => absurd h (by decide)) (by first | assumption | exact h00 | exact fun h => absurd h (by decide)) (by first | assumption | exact h00 | exact fun h => absurd h (by decide))
set_option maxRecDepth 100000 in
set_option maxHeartbeats 4000000 in
theorem hc_fL_program (h00 : W 0) : ∀ (n : Nat) (pc : Nat) (r0 : Nat) (x1 : Int32) (r2 : Nat) (s0 : Int32) (s1 : Int32) (q2 : Nat) (M : ao_M) (ρ : ao_H), Iv W M0 ρ0 M ρ → W r0 → W r2 → W q2 → ∀ z, fL_program n pc r0 x1 r2 s0 s1 q2 M ρ = some z → Iv W M0 ρ0 z.2.1 z.2.2 := by
  intro n
  induction n with
  | zero => intros; exact absurd (by assumption) (by simp [fL_program.eq_1])
  | succ n ih =>
    intro pc r0 x1 r2 s0 s1 q2 M ρ hI h_r0 h_r2 h_q2
    rw [fL_program.eq_2]
    repeat' (with_reducible (first | exact f_none | refine f_ite (fun hc => ?_) (fun hc => ?_) | refine f_letM (Iv_u (by assumption) ?_) (fun M' hM' => ?_) | refine f_letI (fun v => ?_) | refine f_cs (fun x => ?_) (fun E => ?_) | refine f_letM (Iv_cp (by assumption) ?_) (fun M' hM' => ?_) | refine f_letM (by assumption) (fun M' hM' => ?_) | refine ih _ _ _ _ _ _ _ _ _ (by assumption) ?_ ?_ ?_ | refine ih _ _ _ _ _ _ _ _ _ ?_ ?_ ?_ ?_ | refine f_bind (ih _ _ _ _ _ _ _ _ _ (by assumption) ?_ ?_ ?_) (fun y hy => ?_) | refine f_bind (hc_gX10_program h00 (by assumption) ?_) (fun y hy => ?_)  | refine f_bindF (by assumption) ?_ (fun j hj => ?_) | refine f_bindZ (by assumption) (fun j hj hz => ?_) | refine f_some ?_ | assumption | exact okl (by assumption) | exact okw (by assumption) (by assumption) (by assumption) (by decide) | exact h00 | refine Iv_u (by assumption) ?_ | refine Iv_cp (by assumption) ?_ | refine Iv_r ?_ ?_ ?_ | refine Iv_new (by assumption) (by assumption) (by assumption) | refine Iv_th (by assumption) | refine Iv_u ?_ ?_ | refine Iv_cp ?_ ?_ | apply And.intro))
set_option maxRecDepth 100000 in
set_option maxHeartbeats 4000000 in
theorem hc_gL_program (h00 : W 0) {n : Nat} {r0 : Nat} {x1 : Int32} {r2 : Nat} {M : ao_M} {ρ : ao_H} (hI : Iv W M0 ρ0 M ρ) (h_r0 : W r0) (h_r2 : W r2) : ∀ z, gL_program n r0 x1 r2 M ρ = some z → Iv W M0 ρ0 z.2.1 z.2.2 := by
  unfold gL_program
  exact hc_fL_program h00 _ _ _ _ _ _ _ _ _ _ hI (by first | assumption | exact h00 | exact fun h => absurd h (by decide)) (by first | assumption | exact h00 | exact fun h => absurd h (by decide)) (by first | assumption | exact h00 | exact fun h => absurd h (by decide))
set_option maxRecDepth 100000 in
set_option maxHeartbeats 4000000 in
theorem hc_gX10_place (h00 : W 0) {r0 : Nat} {M : ao_M} {ρ : ao_H} (hI : Iv W M0 ρ0 M ρ) (h_r0 : W r0) : ∀ z, gX10_place r0 M ρ = some z → Iv W M0 ρ0 z.2 ρ := by
  unfold gX10_place
  repeat' (with_reducible (first | exact f_none | refine f_ite (fun hc => ?_) (fun hc => ?_) | refine f_letM (Iv_u (by assumption) ?_) (fun M' hM' => ?_) | refine f_letI (fun v => ?_) | refine f_cs (fun x => ?_) (fun E => ?_) | refine f_letM (Iv_cp (by assumption) ?_) (fun M' hM' => ?_) | refine f_letM (by assumption) (fun M' hM' => ?_)  | refine f_bindF (by assumption) ?_ (fun j hj => ?_) | refine f_bindZ (by assumption) (fun j hj hz => ?_) | refine f_some ?_ | assumption | exact okl (by assumption) | exact okw (by assumption) (by assumption) (by assumption) (by decide) | exact h00 | refine Iv_u (by assumption) ?_ | refine Iv_cp (by assumption) ?_ | refine Iv_r ?_ ?_ ?_ | refine Iv_new (by assumption) (by assumption) (by assumption) | refine Iv_th (by assumption) | refine Iv_u ?_ ?_ | refine Iv_cp ?_ ?_ | apply And.intro))
set_option maxRecDepth 100000 in
set_option maxHeartbeats 4000000 in
theorem hc_fJ7_copyOf_59c91 (h00 : W 0) : ∀ (n : Nat) (pc : Nat) (r0 : Nat) (x1 : Int32) (q0 : Nat) (M : ao_M) (ρ : ao_H), Iv W M0 ρ0 M ρ → W r0 → W q0 → ∀ z, fJ7_copyOf_59c91 n pc r0 x1 q0 M ρ = some z → (Iv W M0 ρ0 z.2.1 z.2.2 ∧ W z.1) := by
  intro n
  induction n with
  | zero => intros; exact absurd (by assumption) (by simp [fJ7_copyOf_59c91.eq_1])
  | succ n ih =>
    intro pc r0 x1 q0 M ρ hI h_r0 h_q0
    rw [fJ7_copyOf_59c91.eq_2]
    repeat' (with_reducible (first | exact f_none | refine f_ite (fun hc => ?_) (fun hc => ?_) | refine f_letM (Iv_u (by assumption) ?_) (fun M' hM' => ?_) | refine f_letI (fun v => ?_) | refine f_cs (fun x => ?_) (fun E => ?_) | refine f_letM (Iv_cp (by assumption) ?_) (fun M' hM' => ?_) | refine f_letM (by assumption) (fun M' hM' => ?_) | refine ih _ _ _ _ _ _ (by assumption) ?_ ?_ | refine ih _ _ _ _ _ _ ?_ ?_ ?_ | refine f_bind (ih _ _ _ _ _ _ (by assumption) ?_ ?_) (fun y hy => ?_)  | refine f_bindF (by assumption) ?_ (fun j hj => ?_) | refine f_bindZ (by assumption) (fun j hj hz => ?_) | refine f_some ?_ | assumption | exact okl (by assumption) | exact okw (by assumption) (by assumption) (by assumption) (by decide) | exact h00 | refine Iv_u (by assumption) ?_ | refine Iv_cp (by assumption) ?_ | refine Iv_r ?_ ?_ ?_ | refine Iv_new (by assumption) (by assumption) (by assumption) | refine Iv_th (by assumption) | refine Iv_u ?_ ?_ | refine Iv_cp ?_ ?_ | apply And.intro))
set_option maxRecDepth 100000 in
set_option maxHeartbeats 4000000 in
theorem hc_gJ7_copyOf_59c91 (h00 : W 0) {n : Nat} {r0 : Nat} {x1 : Int32} {M : ao_M} {ρ : ao_H} (hI : Iv W M0 ρ0 M ρ) (h_r0 : W r0) : ∀ z, gJ7_copyOf_59c91 n r0 x1 M ρ = some z → (Iv W M0 ρ0 z.2.1 z.2.2 ∧ W z.1) := by
  unfold gJ7_copyOf_59c91
  exact hc_fJ7_copyOf_59c91 h00 _ _ _ _ _ _ _ hI (by first | assumption | exact h00 | exact fun h => absurd h (by decide)) (by first | assumption | exact h00 | exact fun h => absurd h (by decide))
set_option maxRecDepth 100000 in
set_option maxHeartbeats 4000000 in
theorem hc_fX5_change (h00 : W 0) : ∀ (n : Nat) (pc : Nat) (r0 : Nat) (x1 : Int32) (x2 : Int32) (q0 : Nat) (q1 : Nat) (M : ao_M) (ρ : ao_H), Iv W M0 ρ0 M ρ → W r0 → W q0 → W q1 → ∀ z, fX5_change n pc r0 x1 x2 q0 q1 M ρ = some z → Iv W M0 ρ0 z.1 z.2 := by
  intro n
  induction n with
  | zero => intros; exact absurd (by assumption) (by simp [fX5_change.eq_1])
  | succ n ih =>
    intro pc r0 x1 x2 q0 q1 M ρ hI h_r0 h_q0 h_q1
    rw [fX5_change.eq_2]
    repeat' (with_reducible (first | exact f_none | refine f_ite (fun hc => ?_) (fun hc => ?_) | refine f_letM (Iv_u (by assumption) ?_) (fun M' hM' => ?_) | refine f_letI (fun v => ?_) | refine f_cs (fun x => ?_) (fun E => ?_) | refine f_letM (Iv_cp (by assumption) ?_) (fun M' hM' => ?_) | refine f_letM (by assumption) (fun M' hM' => ?_) | refine ih _ _ _ _ _ _ _ _ (by assumption) ?_ ?_ ?_ | refine ih _ _ _ _ _ _ _ _ ?_ ?_ ?_ ?_ | refine f_bind (ih _ _ _ _ _ _ _ _ (by assumption) ?_ ?_ ?_) (fun y hy => ?_) | refine f_bind2 (hc_gJ7_copyOf_59c91 h00 (by assumption) ?_) (fun y hy1 hy2 => ?_)  | refine f_bindF (by assumption) ?_ (fun j hj => ?_) | refine f_bindZ (by assumption) (fun j hj hz => ?_) | refine f_some ?_ | assumption | exact okl (by assumption) | exact okw (by assumption) (by assumption) (by assumption) (by decide) | exact h00 | refine Iv_u (by assumption) ?_ | refine Iv_cp (by assumption) ?_ | refine Iv_r ?_ ?_ ?_ | refine Iv_new (by assumption) (by assumption) (by assumption) | refine Iv_th (by assumption) | refine Iv_u ?_ ?_ | refine Iv_cp ?_ ?_ | apply And.intro))
set_option maxRecDepth 100000 in
set_option maxHeartbeats 4000000 in
theorem hc_gX5_change (h00 : W 0) {n : Nat} {r0 : Nat} {x1 : Int32} {x2 : Int32} {M : ao_M} {ρ : ao_H} (hI : Iv W M0 ρ0 M ρ) (h_r0 : W r0) : ∀ z, gX5_change n r0 x1 x2 M ρ = some z → Iv W M0 ρ0 z.1 z.2 := by
  unfold gX5_change
  exact hc_fX5_change h00 _ _ _ _ _ _ _ _ _ hI (by first | assumption | exact h00 | exact fun h => absurd h (by decide)) (by first | assumption | exact h00 | exact fun h => absurd h (by decide)) (by first | assumption | exact h00 | exact fun h => absurd h (by decide))
set_option maxRecDepth 100000 in
set_option maxHeartbeats 4000000 in
theorem hc_fX10_put (h00 : W 0) : ∀ (n : Nat) (pc : Nat) (r0 : Nat) (x1 : Int32) (x2 : Int32) (r3 : Nat) (M : ao_M) (ρ : ao_H), Iv W M0 ρ0 M ρ → W r0 → W r3 → ∀ z, fX10_put n pc r0 x1 x2 r3 M ρ = some z → Iv W M0 ρ0 z.2.1 z.2.2 := by
  intro n
  induction n with
  | zero => intros; exact absurd (by assumption) (by simp [fX10_put.eq_1])
  | succ n ih =>
    intro pc r0 x1 x2 r3 M ρ hI h_r0 h_r3
    rw [fX10_put.eq_2]
    repeat' (with_reducible (first | exact f_none | refine f_ite (fun hc => ?_) (fun hc => ?_) | refine f_letM (Iv_u (by assumption) ?_) (fun M' hM' => ?_) | refine f_letI (fun v => ?_) | refine f_cs (fun x => ?_) (fun E => ?_) | refine f_letM (Iv_cp (by assumption) ?_) (fun M' hM' => ?_) | refine f_letM (by assumption) (fun M' hM' => ?_) | refine ih _ _ _ _ _ _ _ (by assumption) ?_ ?_ | refine ih _ _ _ _ _ _ _ ?_ ?_ ?_ | refine f_bind (ih _ _ _ _ _ _ _ (by assumption) ?_ ?_) (fun y hy => ?_) | refine f_bind (hc_gX5_change h00 (by assumption) ?_) (fun y hy => ?_)  | refine f_bindF (by assumption) ?_ (fun j hj => ?_) | refine f_bindZ (by assumption) (fun j hj hz => ?_) | refine f_some ?_ | assumption | exact okl (by assumption) | exact okw (by assumption) (by assumption) (by assumption) (by decide) | exact h00 | refine Iv_u (by assumption) ?_ | refine Iv_cp (by assumption) ?_ | refine Iv_r ?_ ?_ ?_ | refine Iv_new (by assumption) (by assumption) (by assumption) | refine Iv_th (by assumption) | refine Iv_u ?_ ?_ | refine Iv_cp ?_ ?_ | apply And.intro))
set_option maxRecDepth 100000 in
set_option maxHeartbeats 4000000 in
theorem hc_gX10_put (h00 : W 0) {n : Nat} {r0 : Nat} {x1 : Int32} {x2 : Int32} {M : ao_M} {ρ : ao_H} (hI : Iv W M0 ρ0 M ρ) (h_r0 : W r0) : ∀ z, gX10_put n r0 x1 x2 M ρ = some z → Iv W M0 ρ0 z.2.1 z.2.2 := by
  unfold gX10_put
  exact hc_fX10_put h00 _ _ _ _ _ _ _ _ hI (by first | assumption | exact h00 | exact fun h => absurd h (by decide)) (by first | assumption | exact h00 | exact fun h => absurd h (by decide))
set_option maxRecDepth 100000 in
set_option maxHeartbeats 4000000 in
theorem hc_fL_put (h00 : W 0) : ∀ (n : Nat) (pc : Nat) (r0 : Nat) (x1 : Int32) (x2 : Int32) (r3 : Nat) (s0 : Int32) (s1 : Int32) (q2 : Nat) (M : ao_M) (ρ : ao_H), Iv W M0 ρ0 M ρ → W r0 → W r3 → W q2 → ∀ z, fL_put n pc r0 x1 x2 r3 s0 s1 q2 M ρ = some z → Iv W M0 ρ0 z.2.1 z.2.2 := by
  intro n
  induction n with
  | zero => intros; exact absurd (by assumption) (by simp [fL_put.eq_1])
  | succ n ih =>
    intro pc r0 x1 x2 r3 s0 s1 q2 M ρ hI h_r0 h_r3 h_q2
    rw [fL_put.eq_2]
    repeat' (with_reducible (first | exact f_none | refine f_ite (fun hc => ?_) (fun hc => ?_) | refine f_letM (Iv_u (by assumption) ?_) (fun M' hM' => ?_) | refine f_letI (fun v => ?_) | refine f_cs (fun x => ?_) (fun E => ?_) | refine f_letM (Iv_cp (by assumption) ?_) (fun M' hM' => ?_) | refine f_letM (by assumption) (fun M' hM' => ?_) | refine ih _ _ _ _ _ _ _ _ _ _ (by assumption) ?_ ?_ ?_ | refine ih _ _ _ _ _ _ _ _ _ _ ?_ ?_ ?_ ?_ | refine f_bind (ih _ _ _ _ _ _ _ _ _ _ (by assumption) ?_ ?_ ?_) (fun y hy => ?_) | refine f_bind (hc_gX10_put h00 (by assumption) ?_) (fun y hy => ?_)  | refine f_bindF (by assumption) ?_ (fun j hj => ?_) | refine f_bindZ (by assumption) (fun j hj hz => ?_) | refine f_some ?_ | assumption | exact okl (by assumption) | exact okw (by assumption) (by assumption) (by assumption) (by decide) | exact h00 | refine Iv_u (by assumption) ?_ | refine Iv_cp (by assumption) ?_ | refine Iv_r ?_ ?_ ?_ | refine Iv_new (by assumption) (by assumption) (by assumption) | refine Iv_th (by assumption) | refine Iv_u ?_ ?_ | refine Iv_cp ?_ ?_ | apply And.intro))
set_option maxRecDepth 100000 in
set_option maxHeartbeats 4000000 in
theorem hc_gL_put (h00 : W 0) {n : Nat} {r0 : Nat} {x1 : Int32} {x2 : Int32} {r3 : Nat} {M : ao_M} {ρ : ao_H} (hI : Iv W M0 ρ0 M ρ) (h_r0 : W r0) (h_r3 : W r3) : ∀ z, gL_put n r0 x1 x2 r3 M ρ = some z → Iv W M0 ρ0 z.2.1 z.2.2 := by
  unfold gL_put
  exact hc_fL_put h00 _ _ _ _ _ _ _ _ _ _ _ hI (by first | assumption | exact h00 | exact fun h => absurd h (by decide)) (by first | assumption | exact h00 | exact fun h => absurd h (by decide)) (by first | assumption | exact h00 | exact fun h => absurd h (by decide))
set_option maxRecDepth 100000 in
set_option maxHeartbeats 4000000 in
theorem hc_fX7_level (h00 : W 0) : ∀ (n : Nat) (pc : Nat) (r0 : Nat) (x1 : Int32) (s0 : Int32) (q1 : Nat) (M : ao_M) (ρ : ao_H), Iv W M0 ρ0 M ρ → W r0 → W q1 → ∀ z, fX7_level n pc r0 x1 s0 q1 M ρ = some z → (Iv W M0 ρ0 z.2 ρ ∧ W z.1) := by
  intro n
  induction n with
  | zero => intros; exact absurd (by assumption) (by simp [fX7_level.eq_1])
  | succ n ih =>
    intro pc r0 x1 s0 q1 M ρ hI h_r0 h_q1
    rw [fX7_level.eq_2]
    repeat' (with_reducible (first | exact f_none | refine f_ite (fun hc => ?_) (fun hc => ?_) | refine f_letM (Iv_u (by assumption) ?_) (fun M' hM' => ?_) | refine f_letI (fun v => ?_) | refine f_cs (fun x => ?_) (fun E => ?_) | refine f_letM (Iv_cp (by assumption) ?_) (fun M' hM' => ?_) | refine f_letM (by assumption) (fun M' hM' => ?_) | refine ih _ _ _ _ _ _ _ (by assumption) ?_ ?_ | refine ih _ _ _ _ _ _ _ ?_ ?_ ?_ | refine f_bind (ih _ _ _ _ _ _ _ (by assumption) ?_ ?_) (fun y hy => ?_)  | refine f_bindF (by assumption) ?_ (fun j hj => ?_) | refine f_bindZ (by assumption) (fun j hj hz => ?_) | refine f_some ?_ | assumption | exact okl (by assumption) | exact okw (by assumption) (by assumption) (by assumption) (by decide) | exact h00 | refine Iv_u (by assumption) ?_ | refine Iv_cp (by assumption) ?_ | refine Iv_r ?_ ?_ ?_ | refine Iv_new (by assumption) (by assumption) (by assumption) | refine Iv_th (by assumption) | refine Iv_u ?_ ?_ | refine Iv_cp ?_ ?_ | apply And.intro))
set_option maxRecDepth 100000 in
set_option maxHeartbeats 4000000 in
theorem hc_gX7_level (h00 : W 0) {n : Nat} {r0 : Nat} {x1 : Int32} {M : ao_M} {ρ : ao_H} (hI : Iv W M0 ρ0 M ρ) (h_r0 : W r0) : ∀ z, gX7_level n r0 x1 M ρ = some z → (Iv W M0 ρ0 z.2 ρ ∧ W z.1) := by
  unfold gX7_level
  exact hc_fX7_level h00 _ _ _ _ _ _ _ _ hI (by first | assumption | exact h00 | exact fun h => absurd h (by decide)) (by first | assumption | exact h00 | exact fun h => absurd h (by decide))
set_option maxRecDepth 100000 in
set_option maxHeartbeats 4000000 in
theorem hc_gX5_isTakenByOther (h00 : W 0) {r0 : Nat} {x1 : Int32} {x2 : Int32} {M : ao_M} {ρ : ao_H} (hI : Iv W M0 ρ0 M ρ) (h_r0 : W r0) : ∀ z, gX5_isTakenByOther r0 x1 x2 M ρ = some z → Iv W M0 ρ0 z.2 ρ := by
  unfold gX5_isTakenByOther
  repeat' (with_reducible (first | exact f_none | refine f_ite (fun hc => ?_) (fun hc => ?_) | refine f_letM (Iv_u (by assumption) ?_) (fun M' hM' => ?_) | refine f_letI (fun v => ?_) | refine f_cs (fun x => ?_) (fun E => ?_) | refine f_letM (Iv_cp (by assumption) ?_) (fun M' hM' => ?_) | refine f_letM (by assumption) (fun M' hM' => ?_)  | refine f_bindF (by assumption) ?_ (fun j hj => ?_) | refine f_bindZ (by assumption) (fun j hj hz => ?_) | refine f_some ?_ | assumption | exact okl (by assumption) | exact okw (by assumption) (by assumption) (by assumption) (by decide) | exact h00 | refine Iv_u (by assumption) ?_ | refine Iv_cp (by assumption) ?_ | refine Iv_r ?_ ?_ ?_ | refine Iv_new (by assumption) (by assumption) (by assumption) | refine Iv_th (by assumption) | refine Iv_u ?_ ?_ | refine Iv_cp ?_ ?_ | apply And.intro))
set_option maxRecDepth 100000 in
set_option maxHeartbeats 4000000 in
theorem hc_fX2_hasNews (h00 : W 0) : ∀ (n : Nat) (pc : Nat) (r0 : Nat) (r1 : Nat) (r2 : Nat) (x3 : Int32) (x4 : Int32) (M : ao_M) (ρ : ao_H), Iv W M0 ρ0 M ρ → W r0 → W r1 → W r2 → ∀ z, fX2_hasNews n pc r0 r1 r2 x3 x4 M ρ = some z → Iv W M0 ρ0 z.2 ρ := by
  intro n
  induction n with
  | zero => intros; exact absurd (by assumption) (by simp [fX2_hasNews.eq_1])
  | succ n ih =>
    intro pc r0 r1 r2 x3 x4 M ρ hI h_r0 h_r1 h_r2
    rw [fX2_hasNews.eq_2]
    repeat' (with_reducible (first | exact f_none | refine f_ite (fun hc => ?_) (fun hc => ?_) | refine f_letM (Iv_u (by assumption) ?_) (fun M' hM' => ?_) | refine f_letI (fun v => ?_) | refine f_cs (fun x => ?_) (fun E => ?_) | refine f_letM (Iv_cp (by assumption) ?_) (fun M' hM' => ?_) | refine f_letM (by assumption) (fun M' hM' => ?_) | refine ih _ _ _ _ _ _ _ _ (by assumption) ?_ ?_ ?_ | refine ih _ _ _ _ _ _ _ _ ?_ ?_ ?_ ?_ | refine f_bind (ih _ _ _ _ _ _ _ _ (by assumption) ?_ ?_ ?_) (fun y hy => ?_) | refine f_bind2 (hc_gX7_level h00 (by assumption) ?_) (fun y hy1 hy2 => ?_) | refine f_bind (hc_gX5_isTakenByOther h00 (by assumption) ?_) (fun y hy => ?_)  | refine f_bindF (by assumption) ?_ (fun j hj => ?_) | refine f_bindZ (by assumption) (fun j hj hz => ?_) | refine f_some ?_ | assumption | exact okl (by assumption) | exact okw (by assumption) (by assumption) (by assumption) (by decide) | exact h00 | refine Iv_u (by assumption) ?_ | refine Iv_cp (by assumption) ?_ | refine Iv_r ?_ ?_ ?_ | refine Iv_new (by assumption) (by assumption) (by assumption) | refine Iv_th (by assumption) | refine Iv_u ?_ ?_ | refine Iv_cp ?_ ?_ | apply And.intro))
set_option maxRecDepth 100000 in
set_option maxHeartbeats 4000000 in
theorem hc_gX2_hasNews (h00 : W 0) {n : Nat} {r0 : Nat} {r1 : Nat} {M : ao_M} {ρ : ao_H} (hI : Iv W M0 ρ0 M ρ) (h_r0 : W r0) (h_r1 : W r1) : ∀ z, gX2_hasNews n r0 r1 M ρ = some z → Iv W M0 ρ0 z.2 ρ := by
  unfold gX2_hasNews
  exact hc_fX2_hasNews h00 _ _ _ _ _ _ _ _ _ hI (by first | assumption | exact h00 | exact fun h => absurd h (by decide)) (by first | assumption | exact h00 | exact fun h => absurd h (by decide)) (by first | assumption | exact h00 | exact fun h => absurd h (by decide))
set_option maxRecDepth 100000 in
set_option maxHeartbeats 4000000 in
theorem hc_fX2_howManyAre (h00 : W 0) : ∀ (n : Nat) (pc : Nat) (r0 : Nat) (x1 : Int32) (x2 : Int32) (x3 : Int32) (M : ao_M) (ρ : ao_H), Iv W M0 ρ0 M ρ → W r0 → ∀ z, fX2_howManyAre n pc r0 x1 x2 x3 M ρ = some z → Iv W M0 ρ0 z.2 ρ := by
  intro n
  induction n with
  | zero => intros; exact absurd (by assumption) (by simp [fX2_howManyAre.eq_1])
  | succ n ih =>
    intro pc r0 x1 x2 x3 M ρ hI h_r0
    rw [fX2_howManyAre.eq_2]
    repeat' (with_reducible (first | exact f_none | refine f_ite (fun hc => ?_) (fun hc => ?_) | refine f_letM (Iv_u (by assumption) ?_) (fun M' hM' => ?_) | refine f_letI (fun v => ?_) | refine f_cs (fun x => ?_) (fun E => ?_) | refine f_letM (Iv_cp (by assumption) ?_) (fun M' hM' => ?_) | refine f_letM (by assumption) (fun M' hM' => ?_) | refine ih _ _ _ _ _ _ _ (by assumption) ?_ | refine ih _ _ _ _ _ _ _ ?_ ?_ | refine f_bind (ih _ _ _ _ _ _ _ (by assumption) ?_) (fun y hy => ?_)  | refine f_bindF (by assumption) ?_ (fun j hj => ?_) | refine f_bindZ (by assumption) (fun j hj hz => ?_) | refine f_some ?_ | assumption | exact okl (by assumption) | exact okw (by assumption) (by assumption) (by assumption) (by decide) | exact h00 | refine Iv_u (by assumption) ?_ | refine Iv_cp (by assumption) ?_ | refine Iv_r ?_ ?_ ?_ | refine Iv_new (by assumption) (by assumption) (by assumption) | refine Iv_th (by assumption) | refine Iv_u ?_ ?_ | refine Iv_cp ?_ ?_ | apply And.intro))
set_option maxRecDepth 100000 in
set_option maxHeartbeats 4000000 in
theorem hc_gX2_howManyAre (h00 : W 0) {n : Nat} {r0 : Nat} {x1 : Int32} {M : ao_M} {ρ : ao_H} (hI : Iv W M0 ρ0 M ρ) (h_r0 : W r0) : ∀ z, gX2_howManyAre n r0 x1 M ρ = some z → Iv W M0 ρ0 z.2 ρ := by
  unfold gX2_howManyAre
  exact hc_fX2_howManyAre h00 _ _ _ _ _ _ _ _ hI (by first | assumption | exact h00 | exact fun h => absurd h (by decide))
set_option maxRecDepth 100000 in
set_option maxHeartbeats 4000000 in
theorem hc_fX2_isBusy (h00 : W 0) : ∀ (n : Nat) (pc : Nat) (r0 : Nat) (r1 : Nat) (s0 : Int32) (s1 : Int32) (M : ao_M) (ρ : ao_H), Iv W M0 ρ0 M ρ → W r0 → W r1 → ∀ z, fX2_isBusy n pc r0 r1 s0 s1 M ρ = some z → Iv W M0 ρ0 z.2 ρ := by
  intro n
  induction n with
  | zero => intros; exact absurd (by assumption) (by simp [fX2_isBusy.eq_1])
  | succ n ih =>
    intro pc r0 r1 s0 s1 M ρ hI h_r0 h_r1
    rw [fX2_isBusy.eq_2]
    repeat' (with_reducible (first | exact f_none | refine f_ite (fun hc => ?_) (fun hc => ?_) | refine f_letM (Iv_u (by assumption) ?_) (fun M' hM' => ?_) | refine f_letI (fun v => ?_) | refine f_cs (fun x => ?_) (fun E => ?_) | refine f_letM (Iv_cp (by assumption) ?_) (fun M' hM' => ?_) | refine f_letM (by assumption) (fun M' hM' => ?_) | refine ih _ _ _ _ _ _ _ (by assumption) ?_ ?_ | refine ih _ _ _ _ _ _ _ ?_ ?_ ?_ | refine f_bind (ih _ _ _ _ _ _ _ (by assumption) ?_ ?_) (fun y hy => ?_) | refine f_bind (hc_gX2_howManyAre h00 (by assumption) ?_) (fun y hy => ?_)  | refine f_bindF (by assumption) ?_ (fun j hj => ?_) | refine f_bindZ (by assumption) (fun j hj hz => ?_) | refine f_some ?_ | assumption | exact okl (by assumption) | exact okw (by assumption) (by assumption) (by assumption) (by decide) | exact h00 | refine Iv_u (by assumption) ?_ | refine Iv_cp (by assumption) ?_ | refine Iv_r ?_ ?_ ?_ | refine Iv_new (by assumption) (by assumption) (by assumption) | refine Iv_th (by assumption) | refine Iv_u ?_ ?_ | refine Iv_cp ?_ ?_ | apply And.intro))
set_option maxRecDepth 100000 in
set_option maxHeartbeats 4000000 in
theorem hc_gX2_isBusy (h00 : W 0) {n : Nat} {r0 : Nat} {r1 : Nat} {M : ao_M} {ρ : ao_H} (hI : Iv W M0 ρ0 M ρ) (h_r0 : W r0) (h_r1 : W r1) : ∀ z, gX2_isBusy n r0 r1 M ρ = some z → Iv W M0 ρ0 z.2 ρ := by
  unfold gX2_isBusy
  exact hc_fX2_isBusy h00 _ _ _ _ _ _ _ _ hI (by first | assumption | exact h00 | exact fun h => absurd h (by decide)) (by first | assumption | exact h00 | exact fun h => absurd h (by decide))
set_option maxRecDepth 100000 in
set_option maxHeartbeats 4000000 in
theorem hc_gX7_setBackTo (h00 : W 0) {r0 : Nat} {r1 : Nat} {M : ao_M} {ρ : ao_H} (hI : Iv W M0 ρ0 M ρ) (h_r0 : W r0) (h_r1 : W r1) : ∀ z, gX7_setBackTo r0 r1 M ρ = some z → Iv W M0 ρ0 z ρ := by
  unfold gX7_setBackTo
  repeat' (with_reducible (first | exact f_none | refine f_ite (fun hc => ?_) (fun hc => ?_) | refine f_letM (Iv_u (by assumption) ?_) (fun M' hM' => ?_) | refine f_letI (fun v => ?_) | refine f_cs (fun x => ?_) (fun E => ?_) | refine f_letM (Iv_cp (by assumption) ?_) (fun M' hM' => ?_) | refine f_letM (by assumption) (fun M' hM' => ?_)  | refine f_bindF (by assumption) ?_ (fun j hj => ?_) | refine f_bindZ (by assumption) (fun j hj hz => ?_) | refine f_some ?_ | assumption | exact okl (by assumption) | exact okw (by assumption) (by assumption) (by assumption) (by decide) | exact h00 | refine Iv_u (by assumption) ?_ | refine Iv_cp (by assumption) ?_ | refine Iv_r ?_ ?_ ?_ | refine Iv_new (by assumption) (by assumption) (by assumption) | refine Iv_th (by assumption) | refine Iv_u ?_ ?_ | refine Iv_cp ?_ ?_ | apply And.intro))
set_option maxRecDepth 100000 in
set_option maxHeartbeats 4000000 in
theorem hc_fX2_writesAtOnce (h00 : W 0) : ∀ (n : Nat) (pc : Nat) (r0 : Nat) (M : ao_M) (ρ : ao_H), Iv W M0 ρ0 M ρ → W r0 → ∀ z, fX2_writesAtOnce n pc r0 M ρ = some z → Iv W M0 ρ0 z.2 ρ := by
  intro n
  induction n with
  | zero => intros; exact absurd (by assumption) (by simp [fX2_writesAtOnce.eq_1])
  | succ n ih =>
    intro pc r0 M ρ hI h_r0
    rw [fX2_writesAtOnce.eq_2]
    repeat' (with_reducible (first | exact f_none | refine f_ite (fun hc => ?_) (fun hc => ?_) | refine f_letM (Iv_u (by assumption) ?_) (fun M' hM' => ?_) | refine f_letI (fun v => ?_) | refine f_cs (fun x => ?_) (fun E => ?_) | refine f_letM (Iv_cp (by assumption) ?_) (fun M' hM' => ?_) | refine f_letM (by assumption) (fun M' hM' => ?_) | refine ih _ _ _ _ (by assumption) ?_ | refine ih _ _ _ _ ?_ ?_ | refine f_bind (ih _ _ _ _ (by assumption) ?_) (fun y hy => ?_)  | refine f_bindF (by assumption) ?_ (fun j hj => ?_) | refine f_bindZ (by assumption) (fun j hj hz => ?_) | refine f_some ?_ | assumption | exact okl (by assumption) | exact okw (by assumption) (by assumption) (by assumption) (by decide) | exact h00 | refine Iv_u (by assumption) ?_ | refine Iv_cp (by assumption) ?_ | refine Iv_r ?_ ?_ ?_ | refine Iv_new (by assumption) (by assumption) (by assumption) | refine Iv_th (by assumption) | refine Iv_u ?_ ?_ | refine Iv_cp ?_ ?_ | apply And.intro))
set_option maxRecDepth 100000 in
set_option maxHeartbeats 4000000 in
theorem hc_gX2_writesAtOnce (h00 : W 0) {n : Nat} {r0 : Nat} {M : ao_M} {ρ : ao_H} (hI : Iv W M0 ρ0 M ρ) (h_r0 : W r0) : ∀ z, gX2_writesAtOnce n r0 M ρ = some z → Iv W M0 ρ0 z.2 ρ := by
  unfold gX2_writesAtOnce
  exact hc_fX2_writesAtOnce h00 _ _ _ _ _ hI (by first | assumption | exact h00 | exact fun h => absurd h (by decide))
set_option maxRecDepth 100000 in
set_option maxHeartbeats 4000000 in
theorem hc_fX2_giveBack (h00 : W 0) : ∀ (n : Nat) (pc : Nat) (r0 : Nat) (r1 : Nat) (x2 : Int32) (M : ao_M) (ρ : ao_H), Iv W M0 ρ0 M ρ → W r0 → W r1 → ∀ z, fX2_giveBack n pc r0 r1 x2 M ρ = some z → Iv W M0 ρ0 z ρ := by
  intro n
  induction n with
  | zero => intros; exact absurd (by assumption) (by simp [fX2_giveBack.eq_1])
  | succ n ih =>
    intro pc r0 r1 x2 M ρ hI h_r0 h_r1
    rw [fX2_giveBack.eq_2]
    repeat' (with_reducible (first | exact f_none | refine f_ite (fun hc => ?_) (fun hc => ?_) | refine f_letM (Iv_u (by assumption) ?_) (fun M' hM' => ?_) | refine f_letI (fun v => ?_) | refine f_cs (fun x => ?_) (fun E => ?_) | refine f_letM (Iv_cp (by assumption) ?_) (fun M' hM' => ?_) | refine f_letM (by assumption) (fun M' hM' => ?_) | refine ih _ _ _ _ _ _ (by assumption) ?_ ?_ | refine ih _ _ _ _ _ _ ?_ ?_ ?_ | refine f_bind (ih _ _ _ _ _ _ (by assumption) ?_ ?_) (fun y hy => ?_)  | refine f_bindF (by assumption) ?_ (fun j hj => ?_) | refine f_bindZ (by assumption) (fun j hj hz => ?_) | refine f_some ?_ | assumption | exact okl (by assumption) | exact okw (by assumption) (by assumption) (by assumption) (by decide) | exact h00 | refine Iv_u (by assumption) ?_ | refine Iv_cp (by assumption) ?_ | refine Iv_r ?_ ?_ ?_ | refine Iv_new (by assumption) (by assumption) (by assumption) | refine Iv_th (by assumption) | refine Iv_u ?_ ?_ | refine Iv_cp ?_ ?_ | apply And.intro))
set_option maxRecDepth 100000 in
set_option maxHeartbeats 4000000 in
theorem hc_gX2_giveBack (h00 : W 0) {n : Nat} {r0 : Nat} {r1 : Nat} {M : ao_M} {ρ : ao_H} (hI : Iv W M0 ρ0 M ρ) (h_r0 : W r0) (h_r1 : W r1) : ∀ z, gX2_giveBack n r0 r1 M ρ = some z → Iv W M0 ρ0 z ρ := by
  unfold gX2_giveBack
  exact hc_fX2_giveBack h00 _ _ _ _ _ _ _ hI (by first | assumption | exact h00 | exact fun h => absurd h (by decide)) (by first | assumption | exact h00 | exact fun h => absurd h (by decide))
set_option maxRecDepth 100000 in
set_option maxHeartbeats 4000000 in
theorem hc_gX3_forgetWrites (h00 : W 0) {r0 : Nat} {M : ao_M} {ρ : ao_H} (hI : Iv W M0 ρ0 M ρ) (h_r0 : W r0) : ∀ z, gX3_forgetWrites r0 M ρ = some z → Iv W M0 ρ0 z ρ := by
  unfold gX3_forgetWrites
  repeat' (with_reducible (first | exact f_none | refine f_ite (fun hc => ?_) (fun hc => ?_) | refine f_letM (Iv_u (by assumption) ?_) (fun M' hM' => ?_) | refine f_letI (fun v => ?_) | refine f_cs (fun x => ?_) (fun E => ?_) | refine f_letM (Iv_cp (by assumption) ?_) (fun M' hM' => ?_) | refine f_letM (by assumption) (fun M' hM' => ?_)  | refine f_bindF (by assumption) ?_ (fun j hj => ?_) | refine f_bindZ (by assumption) (fun j hj hz => ?_) | refine f_some ?_ | assumption | exact okl (by assumption) | exact okw (by assumption) (by assumption) (by assumption) (by decide) | exact h00 | refine Iv_u (by assumption) ?_ | refine Iv_cp (by assumption) ?_ | refine Iv_r ?_ ?_ ?_ | refine Iv_new (by assumption) (by assumption) (by assumption) | refine Iv_th (by assumption) | refine Iv_u ?_ ?_ | refine Iv_cp ?_ ?_ | apply And.intro))
set_option maxRecDepth 100000 in
set_option maxHeartbeats 4000000 in
theorem hc_fX2_takeBack (h00 : W 0) : ∀ (n : Nat) (pc : Nat) (r0 : Nat) (r1 : Nat) (x2 : Int32) (x3 : Int32) (r4 : Nat) (M : ao_M) (ρ : ao_H), Iv W M0 ρ0 M ρ → W r0 → W r1 → W r4 → ∀ z, fX2_takeBack n pc r0 r1 x2 x3 r4 M ρ = some z → Iv W M0 ρ0 z ρ := by
  intro n
  induction n with
  | zero => intros; exact absurd (by assumption) (by simp [fX2_takeBack.eq_1])
  | succ n ih =>
    intro pc r0 r1 x2 x3 r4 M ρ hI h_r0 h_r1 h_r4
    rw [fX2_takeBack.eq_2]
    repeat' (with_reducible (first | exact f_none | refine f_ite (fun hc => ?_) (fun hc => ?_) | refine f_letM (Iv_u (by assumption) ?_) (fun M' hM' => ?_) | refine f_letI (fun v => ?_) | refine f_cs (fun x => ?_) (fun E => ?_) | refine f_letM (Iv_cp (by assumption) ?_) (fun M' hM' => ?_) | refine f_letM (by assumption) (fun M' hM' => ?_) | refine ih _ _ _ _ _ _ _ _ (by assumption) ?_ ?_ ?_ | refine ih _ _ _ _ _ _ _ _ ?_ ?_ ?_ ?_ | refine f_bind (ih _ _ _ _ _ _ _ _ (by assumption) ?_ ?_ ?_) (fun y hy => ?_) | refine f_bind2 (hc_gX7_level h00 (by assumption) ?_) (fun y hy1 hy2 => ?_) | refine f_bind (hc_gX7_setBackTo h00 (by assumption) ?_ ?_) (fun y hy => ?_) | refine f_bind (hc_gX2_writesAtOnce h00 (by assumption) ?_) (fun y hy => ?_) | refine f_bind (hc_gX2_giveBack h00 (by assumption) ?_ ?_) (fun y hy => ?_) | refine f_bind (hc_gX3_forgetWrites h00 (by assumption) ?_) (fun y hy => ?_)  | refine f_bindF (by assumption) ?_ (fun j hj => ?_) | refine f_bindZ (by assumption) (fun j hj hz => ?_) | refine f_some ?_ | assumption | exact okl (by assumption) | exact okw (by assumption) (by assumption) (by assumption) (by decide) | exact h00 | refine Iv_u (by assumption) ?_ | refine Iv_cp (by assumption) ?_ | refine Iv_r ?_ ?_ ?_ | refine Iv_new (by assumption) (by assumption) (by assumption) | refine Iv_th (by assumption) | refine Iv_u ?_ ?_ | refine Iv_cp ?_ ?_ | apply And.intro))
set_option maxRecDepth 100000 in
set_option maxHeartbeats 4000000 in
theorem hc_gX2_takeBack (h00 : W 0) {n : Nat} {r0 : Nat} {r1 : Nat} {x2 : Int32} {M : ao_M} {ρ : ao_H} (hI : Iv W M0 ρ0 M ρ) (h_r0 : W r0) (h_r1 : W r1) : ∀ z, gX2_takeBack n r0 r1 x2 M ρ = some z → Iv W M0 ρ0 z ρ := by
  unfold gX2_takeBack
  exact hc_fX2_takeBack h00 _ _ _ _ _ _ _ _ _ hI (by first | assumption | exact h00 | exact fun h => absurd h (by decide)) (by first | assumption | exact h00 | exact fun h => absurd h (by decide)) (by first | assumption | exact h00 | exact fun h => absurd h (by decide))
set_option maxRecDepth 100000 in
set_option maxHeartbeats 4000000 in
theorem hc_gX3_forgetReads (h00 : W 0) {r0 : Nat} {M : ao_M} {ρ : ao_H} (hI : Iv W M0 ρ0 M ρ) (h_r0 : W r0) : ∀ z, gX3_forgetReads r0 M ρ = some z → Iv W M0 ρ0 z ρ := by
  unfold gX3_forgetReads
  repeat' (with_reducible (first | exact f_none | refine f_ite (fun hc => ?_) (fun hc => ?_) | refine f_letM (Iv_u (by assumption) ?_) (fun M' hM' => ?_) | refine f_letI (fun v => ?_) | refine f_cs (fun x => ?_) (fun E => ?_) | refine f_letM (Iv_cp (by assumption) ?_) (fun M' hM' => ?_) | refine f_letM (by assumption) (fun M' hM' => ?_)  | refine f_bindF (by assumption) ?_ (fun j hj => ?_) | refine f_bindZ (by assumption) (fun j hj hz => ?_) | refine f_some ?_ | assumption | exact okl (by assumption) | exact okw (by assumption) (by assumption) (by assumption) (by decide) | exact h00 | refine Iv_u (by assumption) ?_ | refine Iv_cp (by assumption) ?_ | refine Iv_r ?_ ?_ ?_ | refine Iv_new (by assumption) (by assumption) (by assumption) | refine Iv_th (by assumption) | refine Iv_u ?_ ?_ | refine Iv_cp ?_ ?_ | apply And.intro))
set_option maxRecDepth 100000 in
set_option maxHeartbeats 4000000 in
theorem hc_fX5_release (h00 : W 0) : ∀ (n : Nat) (pc : Nat) (r0 : Nat) (x1 : Int32) (x2 : Int32) (x3 : Int32) (M : ao_M) (ρ : ao_H), Iv W M0 ρ0 M ρ → W r0 → ∀ z, fX5_release n pc r0 x1 x2 x3 M ρ = some z → Iv W M0 ρ0 z.1 z.2 := by
  intro n
  induction n with
  | zero => intros; exact absurd (by assumption) (by simp [fX5_release.eq_1])
  | succ n ih =>
    intro pc r0 x1 x2 x3 M ρ hI h_r0
    rw [fX5_release.eq_2]
    repeat' (with_reducible (first | exact f_none | refine f_ite (fun hc => ?_) (fun hc => ?_) | refine f_letM (Iv_u (by assumption) ?_) (fun M' hM' => ?_) | refine f_letI (fun v => ?_) | refine f_cs (fun x => ?_) (fun E => ?_) | refine f_letM (Iv_cp (by assumption) ?_) (fun M' hM' => ?_) | refine f_letM (by assumption) (fun M' hM' => ?_) | refine ih _ _ _ _ _ _ _ (by assumption) ?_ | refine ih _ _ _ _ _ _ _ ?_ ?_ | refine f_bind (ih _ _ _ _ _ _ _ (by assumption) ?_) (fun y hy => ?_) | refine f_bind (hc_gX5_change h00 (by assumption) ?_) (fun y hy => ?_)  | refine f_bindF (by assumption) ?_ (fun j hj => ?_) | refine f_bindZ (by assumption) (fun j hj hz => ?_) | refine f_some ?_ | assumption | exact okl (by assumption) | exact okw (by assumption) (by assumption) (by assumption) (by decide) | exact h00 | refine Iv_u (by assumption) ?_ | refine Iv_cp (by assumption) ?_ | refine Iv_r ?_ ?_ ?_ | refine Iv_new (by assumption) (by assumption) (by assumption) | refine Iv_th (by assumption) | refine Iv_u ?_ ?_ | refine Iv_cp ?_ ?_ | apply And.intro))
set_option maxRecDepth 100000 in
set_option maxHeartbeats 4000000 in
theorem hc_gX5_release (h00 : W 0) {n : Nat} {r0 : Nat} {x1 : Int32} {M : ao_M} {ρ : ao_H} (hI : Iv W M0 ρ0 M ρ) (h_r0 : W r0) : ∀ z, gX5_release n r0 x1 M ρ = some z → Iv W M0 ρ0 z.1 z.2 := by
  unfold gX5_release
  exact hc_fX5_release h00 _ _ _ _ _ _ _ _ hI (by first | assumption | exact h00 | exact fun h => absurd h (by decide))
set_option maxRecDepth 100000 in
set_option maxHeartbeats 4000000 in
theorem hc_fX2_restart (h00 : W 0) : ∀ (n : Nat) (pc : Nat) (r0 : Nat) (r1 : Nat) (x2 : Int32) (r3 : Nat) (M : ao_M) (ρ : ao_H), Iv W M0 ρ0 M ρ → W r0 → W r1 → W r3 → ∀ z, fX2_restart n pc r0 r1 x2 r3 M ρ = some z → Iv W M0 ρ0 z.1 z.2 := by
  intro n
  induction n with
  | zero => intros; exact absurd (by assumption) (by simp [fX2_restart.eq_1])
  | succ n ih =>
    intro pc r0 r1 x2 r3 M ρ hI h_r0 h_r1 h_r3
    rw [fX2_restart.eq_2]
    repeat' (with_reducible (first | exact f_none | refine f_ite (fun hc => ?_) (fun hc => ?_) | refine f_letM (Iv_u (by assumption) ?_) (fun M' hM' => ?_) | refine f_letI (fun v => ?_) | refine f_cs (fun x => ?_) (fun E => ?_) | refine f_letM (Iv_cp (by assumption) ?_) (fun M' hM' => ?_) | refine f_letM (by assumption) (fun M' hM' => ?_) | refine ih _ _ _ _ _ _ _ (by assumption) ?_ ?_ ?_ | refine ih _ _ _ _ _ _ _ ?_ ?_ ?_ ?_ | refine f_bind (ih _ _ _ _ _ _ _ (by assumption) ?_ ?_ ?_) (fun y hy => ?_) | refine f_bind (hc_gX2_takeBack h00 (by assumption) ?_ ?_) (fun y hy => ?_) | refine f_bind2 (hc_gX7_level h00 (by assumption) ?_) (fun y hy1 hy2 => ?_) | refine f_bind (hc_gX3_forgetReads h00 (by assumption) ?_) (fun y hy => ?_) | refine f_bind (hc_gX5_release h00 (by assumption) ?_) (fun y hy => ?_)  | refine f_bindF (by assumption) ?_ (fun j hj => ?_) | refine f_bindZ (by assumption) (fun j hj hz => ?_) | refine f_some ?_ | assumption | exact okl (by assumption) | exact okw (by assumption) (by assumption) (by assumption) (by decide) | exact h00 | refine Iv_u (by assumption) ?_ | refine Iv_cp (by assumption) ?_ | refine Iv_r ?_ ?_ ?_ | refine Iv_new (by assumption) (by assumption) (by assumption) | refine Iv_th (by assumption) | refine Iv_u ?_ ?_ | refine Iv_cp ?_ ?_ | apply And.intro))
set_option maxRecDepth 100000 in
set_option maxHeartbeats 4000000 in
theorem hc_gX2_restart (h00 : W 0) {n : Nat} {r0 : Nat} {r1 : Nat} {x2 : Int32} {M : ao_M} {ρ : ao_H} (hI : Iv W M0 ρ0 M ρ) (h_r0 : W r0) (h_r1 : W r1) : ∀ z, gX2_restart n r0 r1 x2 M ρ = some z → Iv W M0 ρ0 z.1 z.2 := by
  unfold gX2_restart
  exact hc_fX2_restart h00 _ _ _ _ _ _ _ _ hI (by first | assumption | exact h00 | exact fun h => absurd h (by decide)) (by first | assumption | exact h00 | exact fun h => absurd h (by decide)) (by first | assumption | exact h00 | exact fun h => absurd h (by decide))
set_option maxRecDepth 100000 in
set_option maxHeartbeats 4000000 in
theorem hc_fX2_stir (h00 : W 0) : ∀ (n : Nat) (pc : Nat) (r0 : Nat) (r1 : Nat) (M : ao_M) (ρ : ao_H), Iv W M0 ρ0 M ρ → W r0 → W r1 → ∀ z, fX2_stir n pc r0 r1 M ρ = some z → Iv W M0 ρ0 z.2.1 z.2.2 := by
  intro n
  induction n with
  | zero => intros; exact absurd (by assumption) (by simp [fX2_stir.eq_1])
  | succ n ih =>
    intro pc r0 r1 M ρ hI h_r0 h_r1
    rw [fX2_stir.eq_2]
    repeat' (with_reducible (first | exact f_none | refine f_ite (fun hc => ?_) (fun hc => ?_) | refine f_letM (Iv_u (by assumption) ?_) (fun M' hM' => ?_) | refine f_letI (fun v => ?_) | refine f_cs (fun x => ?_) (fun E => ?_) | refine f_letM (Iv_cp (by assumption) ?_) (fun M' hM' => ?_) | refine f_letM (by assumption) (fun M' hM' => ?_) | refine ih _ _ _ _ _ (by assumption) ?_ ?_ | refine ih _ _ _ _ _ ?_ ?_ ?_ | refine f_bind (ih _ _ _ _ _ (by assumption) ?_ ?_) (fun y hy => ?_) | refine f_bind (hc_gX2_hasNews h00 (by assumption) ?_ ?_) (fun y hy => ?_) | refine f_bind (hc_gX2_isBusy h00 (by assumption) ?_ ?_) (fun y hy => ?_) | refine f_bind (hc_gX2_restart h00 (by assumption) ?_ ?_) (fun y hy => ?_)  | refine f_bindF (by assumption) ?_ (fun j hj => ?_) | refine f_bindZ (by assumption) (fun j hj hz => ?_) | refine f_some ?_ | assumption | exact okl (by assumption) | exact okw (by assumption) (by assumption) (by assumption) (by decide) | exact h00 | refine Iv_u (by assumption) ?_ | refine Iv_cp (by assumption) ?_ | refine Iv_r ?_ ?_ ?_ | refine Iv_new (by assumption) (by assumption) (by assumption) | refine Iv_th (by assumption) | refine Iv_u ?_ ?_ | refine Iv_cp ?_ ?_ | apply And.intro))
set_option maxRecDepth 100000 in
set_option maxHeartbeats 4000000 in
theorem hc_gX2_stir (h00 : W 0) {n : Nat} {r0 : Nat} {r1 : Nat} {M : ao_M} {ρ : ao_H} (hI : Iv W M0 ρ0 M ρ) (h_r0 : W r0) (h_r1 : W r1) : ∀ z, gX2_stir n r0 r1 M ρ = some z → Iv W M0 ρ0 z.2.1 z.2.2 := by
  unfold gX2_stir
  exact hc_fX2_stir h00 _ _ _ _ _ _ hI (by first | assumption | exact h00 | exact fun h => absurd h (by decide)) (by first | assumption | exact h00 | exact fun h => absurd h (by decide))
set_option maxRecDepth 100000 in
set_option maxHeartbeats 4000000 in
theorem hc_fX7_isLeft (h00 : W 0) : ∀ (n : Nat) (pc : Nat) (r0 : Nat) (M : ao_M) (ρ : ao_H), Iv W M0 ρ0 M ρ → W r0 → ∀ z, fX7_isLeft n pc r0 M ρ = some z → Iv W M0 ρ0 z.2 ρ := by
  intro n
  induction n with
  | zero => intros; exact absurd (by assumption) (by simp [fX7_isLeft.eq_1])
  | succ n ih =>
    intro pc r0 M ρ hI h_r0
    rw [fX7_isLeft.eq_2]
    repeat' (with_reducible (first | exact f_none | refine f_ite (fun hc => ?_) (fun hc => ?_) | refine f_letM (Iv_u (by assumption) ?_) (fun M' hM' => ?_) | refine f_letI (fun v => ?_) | refine f_cs (fun x => ?_) (fun E => ?_) | refine f_letM (Iv_cp (by assumption) ?_) (fun M' hM' => ?_) | refine f_letM (by assumption) (fun M' hM' => ?_) | refine ih _ _ _ _ (by assumption) ?_ | refine ih _ _ _ _ ?_ ?_ | refine f_bind (ih _ _ _ _ (by assumption) ?_) (fun y hy => ?_)  | refine f_bindF (by assumption) ?_ (fun j hj => ?_) | refine f_bindZ (by assumption) (fun j hj hz => ?_) | refine f_some ?_ | assumption | exact okl (by assumption) | exact okw (by assumption) (by assumption) (by assumption) (by decide) | exact h00 | refine Iv_u (by assumption) ?_ | refine Iv_cp (by assumption) ?_ | refine Iv_r ?_ ?_ ?_ | refine Iv_new (by assumption) (by assumption) (by assumption) | refine Iv_th (by assumption) | refine Iv_u ?_ ?_ | refine Iv_cp ?_ ?_ | apply And.intro))
set_option maxRecDepth 100000 in
set_option maxHeartbeats 4000000 in
theorem hc_gX7_isLeft (h00 : W 0) {n : Nat} {r0 : Nat} {M : ao_M} {ρ : ao_H} (hI : Iv W M0 ρ0 M ρ) (h_r0 : W r0) : ∀ z, gX7_isLeft n r0 M ρ = some z → Iv W M0 ρ0 z.2 ρ := by
  unfold gX7_isLeft
  exact hc_fX7_isLeft h00 _ _ _ _ _ hI (by first | assumption | exact h00 | exact fun h => absurd h (by decide))
set_option maxRecDepth 100000 in
set_option maxHeartbeats 4000000 in
theorem hc_gX3_wrote (h00 : W 0) {r0 : Nat} {x1 : Int32} {M : ao_M} {ρ : ao_H} (hI : Iv W M0 ρ0 M ρ) (h_r0 : W r0) : ∀ z, gX3_wrote r0 x1 M ρ = some z → Iv W M0 ρ0 z.2 ρ := by
  unfold gX3_wrote
  repeat' (with_reducible (first | exact f_none | refine f_ite (fun hc => ?_) (fun hc => ?_) | refine f_letM (Iv_u (by assumption) ?_) (fun M' hM' => ?_) | refine f_letI (fun v => ?_) | refine f_cs (fun x => ?_) (fun E => ?_) | refine f_letM (Iv_cp (by assumption) ?_) (fun M' hM' => ?_) | refine f_letM (by assumption) (fun M' hM' => ?_)  | refine f_bindF (by assumption) ?_ (fun j hj => ?_) | refine f_bindZ (by assumption) (fun j hj hz => ?_) | refine f_some ?_ | assumption | exact okl (by assumption) | exact okw (by assumption) (by assumption) (by assumption) (by decide) | exact h00 | refine Iv_u (by assumption) ?_ | refine Iv_cp (by assumption) ?_ | refine Iv_r ?_ ?_ ?_ | refine Iv_new (by assumption) (by assumption) (by assumption) | refine Iv_th (by assumption) | refine Iv_u ?_ ?_ | refine Iv_cp ?_ ?_ | apply And.intro))
set_option maxRecDepth 100000 in
set_option maxHeartbeats 4000000 in
theorem hc_gX7_push (h00 : W 0) {r0 : Nat} {x1 : Int32} {M : ao_M} {ρ : ao_H} (hI : Iv W M0 ρ0 M ρ) (h_r0 : W r0) : ∀ z, gX7_push r0 x1 M ρ = some z → Iv W M0 ρ0 z ρ := by
  unfold gX7_push
  repeat' (with_reducible (first | exact f_none | refine f_ite (fun hc => ?_) (fun hc => ?_) | refine f_letM (Iv_u (by assumption) ?_) (fun M' hM' => ?_) | refine f_letI (fun v => ?_) | refine f_cs (fun x => ?_) (fun E => ?_) | refine f_letM (Iv_cp (by assumption) ?_) (fun M' hM' => ?_) | refine f_letM (by assumption) (fun M' hM' => ?_)  | refine f_bindF (by assumption) ?_ (fun j hj => ?_) | refine f_bindZ (by assumption) (fun j hj hz => ?_) | refine f_some ?_ | assumption | exact okl (by assumption) | exact okw (by assumption) (by assumption) (by assumption) (by decide) | exact h00 | refine Iv_u (by assumption) ?_ | refine Iv_cp (by assumption) ?_ | refine Iv_r ?_ ?_ ?_ | refine Iv_new (by assumption) (by assumption) (by assumption) | refine Iv_th (by assumption) | refine Iv_u ?_ ?_ | refine Iv_cp ?_ ?_ | apply And.intro))
set_option maxRecDepth 100000 in
set_option maxHeartbeats 4000000 in
theorem hc_fX2_isWrong (h00 : W 0) : ∀ (n : Nat) (pc : Nat) (r0 : Nat) (r1 : Nat) (r2 : Nat) (x3 : Int32) (x4 : Int32) (M : ao_M) (ρ : ao_H), Iv W M0 ρ0 M ρ → W r0 → W r1 → W r2 → ∀ z, fX2_isWrong n pc r0 r1 r2 x3 x4 M ρ = some z → Iv W M0 ρ0 z.2 ρ := by
  intro n
  induction n with
  | zero => intros; exact absurd (by assumption) (by simp [fX2_isWrong.eq_1])
  | succ n ih =>
    intro pc r0 r1 r2 x3 x4 M ρ hI h_r0 h_r1 h_r2
    rw [fX2_isWrong.eq_2]
    repeat' (with_reducible (first | exact f_none | refine f_ite (fun hc => ?_) (fun hc => ?_) | refine f_letM (Iv_u (by assumption) ?_) (fun M' hM' => ?_) | refine f_letI (fun v => ?_) | refine f_cs (fun x => ?_) (fun E => ?_) | refine f_letM (Iv_cp (by assumption) ?_) (fun M' hM' => ?_) | refine f_letM (by assumption) (fun M' hM' => ?_) | refine ih _ _ _ _ _ _ _ _ (by assumption) ?_ ?_ ?_ | refine ih _ _ _ _ _ _ _ _ ?_ ?_ ?_ ?_ | refine f_bind (ih _ _ _ _ _ _ _ _ (by assumption) ?_ ?_ ?_) (fun y hy => ?_) | refine f_bind (hc_gX5_isTakenByOther h00 (by assumption) ?_) (fun y hy => ?_)  | refine f_bindF (by assumption) ?_ (fun j hj => ?_) | refine f_bindZ (by assumption) (fun j hj hz => ?_) | refine f_some ?_ | assumption | exact okl (by assumption) | exact okw (by assumption) (by assumption) (by assumption) (by decide) | exact h00 | refine Iv_u (by assumption) ?_ | refine Iv_cp (by assumption) ?_ | refine Iv_r ?_ ?_ ?_ | refine Iv_new (by assumption) (by assumption) (by assumption) | refine Iv_th (by assumption) | refine Iv_u ?_ ?_ | refine Iv_cp ?_ ?_ | apply And.intro))
set_option maxRecDepth 100000 in
set_option maxHeartbeats 4000000 in
theorem hc_gX2_isWrong (h00 : W 0) {n : Nat} {r0 : Nat} {r1 : Nat} {r2 : Nat} {x3 : Int32} {M : ao_M} {ρ : ao_H} (hI : Iv W M0 ρ0 M ρ) (h_r0 : W r0) (h_r1 : W r1) (h_r2 : W r2) : ∀ z, gX2_isWrong n r0 r1 r2 x3 M ρ = some z → Iv W M0 ρ0 z.2 ρ := by
  unfold gX2_isWrong
  exact hc_fX2_isWrong h00 _ _ _ _ _ _ _ _ _ hI (by first | assumption | exact h00 | exact fun h => absurd h (by decide)) (by first | assumption | exact h00 | exact fun h => absurd h (by decide)) (by first | assumption | exact h00 | exact fun h => absurd h (by decide))
set_option maxRecDepth 100000 in
set_option maxHeartbeats 4000000 in
theorem hc_fX2_outermostWrong (h00 : W 0) : ∀ (n : Nat) (pc : Nat) (r0 : Nat) (r1 : Nat) (x2 : Int32) (r3 : Nat) (x4 : Int32) (M : ao_M) (ρ : ao_H), Iv W M0 ρ0 M ρ → W r0 → W r1 → W r3 → ∀ z, fX2_outermostWrong n pc r0 r1 x2 r3 x4 M ρ = some z → Iv W M0 ρ0 z.2 ρ := by
  intro n
  induction n with
  | zero => intros; exact absurd (by assumption) (by simp [fX2_outermostWrong.eq_1])
  | succ n ih =>
    intro pc r0 r1 x2 r3 x4 M ρ hI h_r0 h_r1 h_r3
    rw [fX2_outermostWrong.eq_2]
    repeat' (with_reducible (first | exact f_none | refine f_ite (fun hc => ?_) (fun hc => ?_) | refine f_letM (Iv_u (by assumption) ?_) (fun M' hM' => ?_) | refine f_letI (fun v => ?_) | refine f_cs (fun x => ?_) (fun E => ?_) | refine f_letM (Iv_cp (by assumption) ?_) (fun M' hM' => ?_) | refine f_letM (by assumption) (fun M' hM' => ?_) | refine ih _ _ _ _ _ _ _ _ (by assumption) ?_ ?_ ?_ | refine ih _ _ _ _ _ _ _ _ ?_ ?_ ?_ ?_ | refine f_bind (ih _ _ _ _ _ _ _ _ (by assumption) ?_ ?_ ?_) (fun y hy => ?_) | refine f_bind2 (hc_gX7_level h00 (by assumption) ?_) (fun y hy1 hy2 => ?_) | refine f_bind (hc_gX2_isWrong h00 (by assumption) ?_ ?_ ?_) (fun y hy => ?_)  | refine f_bindF (by assumption) ?_ (fun j hj => ?_) | refine f_bindZ (by assumption) (fun j hj hz => ?_) | refine f_some ?_ | assumption | exact okl (by assumption) | exact okw (by assumption) (by assumption) (by assumption) (by decide) | exact h00 | refine Iv_u (by assumption) ?_ | refine Iv_cp (by assumption) ?_ | refine Iv_r ?_ ?_ ?_ | refine Iv_new (by assumption) (by assumption) (by assumption) | refine Iv_th (by assumption) | refine Iv_u ?_ ?_ | refine Iv_cp ?_ ?_ | apply And.intro))
set_option maxRecDepth 100000 in
set_option maxHeartbeats 4000000 in
theorem hc_gX2_outermostWrong (h00 : W 0) {n : Nat} {r0 : Nat} {r1 : Nat} {M : ao_M} {ρ : ao_H} (hI : Iv W M0 ρ0 M ρ) (h_r0 : W r0) (h_r1 : W r1) : ∀ z, gX2_outermostWrong n r0 r1 M ρ = some z → Iv W M0 ρ0 z.2 ρ := by
  unfold gX2_outermostWrong
  exact hc_fX2_outermostWrong h00 _ _ _ _ _ _ _ _ _ hI (by first | assumption | exact h00 | exact fun h => absurd h (by decide)) (by first | assumption | exact h00 | exact fun h => absurd h (by decide)) (by first | assumption | exact h00 | exact fun h => absurd h (by decide))
set_option maxRecDepth 100000 in
set_option maxHeartbeats 4000000 in
theorem hc_fX5_valueAt (h00 : W 0) : ∀ (n : Nat) (pc : Nat) (r0 : Nat) (x1 : Int32) (x2 : Int32) (x3 : Int32) (x4 : Int32) (M : ao_M) (ρ : ao_H), Iv W M0 ρ0 M ρ → W r0 → ∀ z, fX5_valueAt n pc r0 x1 x2 x3 x4 M ρ = some z → Iv W M0 ρ0 z.2 ρ := by
  intro n
  induction n with
  | zero => intros; exact absurd (by assumption) (by simp [fX5_valueAt.eq_1])
  | succ n ih =>
    intro pc r0 x1 x2 x3 x4 M ρ hI h_r0
    rw [fX5_valueAt.eq_2]
    repeat' (with_reducible (first | exact f_none | refine f_ite (fun hc => ?_) (fun hc => ?_) | refine f_letM (Iv_u (by assumption) ?_) (fun M' hM' => ?_) | refine f_letI (fun v => ?_) | refine f_cs (fun x => ?_) (fun E => ?_) | refine f_letM (Iv_cp (by assumption) ?_) (fun M' hM' => ?_) | refine f_letM (by assumption) (fun M' hM' => ?_) | refine ih _ _ _ _ _ _ _ _ (by assumption) ?_ | refine ih _ _ _ _ _ _ _ _ ?_ ?_ | refine f_bind (ih _ _ _ _ _ _ _ _ (by assumption) ?_) (fun y hy => ?_)  | refine f_bindF (by assumption) ?_ (fun j hj => ?_) | refine f_bindZ (by assumption) (fun j hj hz => ?_) | refine f_some ?_ | assumption | exact okl (by assumption) | exact okw (by assumption) (by assumption) (by assumption) (by decide) | exact h00 | refine Iv_u (by assumption) ?_ | refine Iv_cp (by assumption) ?_ | refine Iv_r ?_ ?_ ?_ | refine Iv_new (by assumption) (by assumption) (by assumption) | refine Iv_th (by assumption) | refine Iv_u ?_ ?_ | refine Iv_cp ?_ ?_ | apply And.intro))
set_option maxRecDepth 100000 in
set_option maxHeartbeats 4000000 in
theorem hc_gX5_valueAt (h00 : W 0) {n : Nat} {r0 : Nat} {x1 : Int32} {x2 : Int32} {M : ao_M} {ρ : ao_H} (hI : Iv W M0 ρ0 M ρ) (h_r0 : W r0) : ∀ z, gX5_valueAt n r0 x1 x2 M ρ = some z → Iv W M0 ρ0 z.2 ρ := by
  unfold gX5_valueAt
  exact hc_fX5_valueAt h00 _ _ _ _ _ _ _ _ _ hI (by first | assumption | exact h00 | exact fun h => absurd h (by decide))
set_option maxRecDepth 100000 in
set_option maxHeartbeats 4000000 in
theorem hc_gX7_innermost (h00 : W 0) {n : Nat} {r0 : Nat} {M : ao_M} {ρ : ao_H} (hI : Iv W M0 ρ0 M ρ) (h_r0 : W r0) : ∀ z, gX7_innermost n r0 M ρ = some z → (Iv W M0 ρ0 z.2 ρ ∧ W z.1) := by
  unfold gX7_innermost
  repeat' (with_reducible (first | exact f_none | refine f_ite (fun hc => ?_) (fun hc => ?_) | refine f_letM (Iv_u (by assumption) ?_) (fun M' hM' => ?_) | refine f_letI (fun v => ?_) | refine f_cs (fun x => ?_) (fun E => ?_) | refine f_letM (Iv_cp (by assumption) ?_) (fun M' hM' => ?_) | refine f_letM (by assumption) (fun M' hM' => ?_) | refine f_bind2 (hc_gX7_level h00 (by assumption) ?_) (fun y hy1 hy2 => ?_)  | refine f_bindF (by assumption) ?_ (fun j hj => ?_) | refine f_bindZ (by assumption) (fun j hj hz => ?_) | refine f_some ?_ | assumption | exact okl (by assumption) | exact okw (by assumption) (by assumption) (by assumption) (by decide) | exact h00 | refine Iv_u (by assumption) ?_ | refine Iv_cp (by assumption) ?_ | refine Iv_r ?_ ?_ ?_ | refine Iv_new (by assumption) (by assumption) (by assumption) | refine Iv_th (by assumption) | refine Iv_u ?_ ?_ | refine Iv_cp ?_ ?_ | apply And.intro))
set_option maxRecDepth 100000 in
set_option maxHeartbeats 4000000 in
theorem hc_gX3_addRead (h00 : W 0) {r0 : Nat} {x1 : Int32} {x2 : Int32} {x3 : Int32} {M : ao_M} {ρ : ao_H} (hI : Iv W M0 ρ0 M ρ) (h_r0 : W r0) : ∀ z, gX3_addRead r0 x1 x2 x3 M ρ = some z → Iv W M0 ρ0 z ρ := by
  unfold gX3_addRead
  repeat' (with_reducible (first | exact f_none | refine f_ite (fun hc => ?_) (fun hc => ?_) | refine f_letM (Iv_u (by assumption) ?_) (fun M' hM' => ?_) | refine f_letI (fun v => ?_) | refine f_cs (fun x => ?_) (fun E => ?_) | refine f_letM (Iv_cp (by assumption) ?_) (fun M' hM' => ?_) | refine f_letM (by assumption) (fun M' hM' => ?_)  | refine f_bindF (by assumption) ?_ (fun j hj => ?_) | refine f_bindZ (by assumption) (fun j hj hz => ?_) | refine f_some ?_ | assumption | exact okl (by assumption) | exact okw (by assumption) (by assumption) (by assumption) (by decide) | exact h00 | refine Iv_u (by assumption) ?_ | refine Iv_cp (by assumption) ?_ | refine Iv_r ?_ ?_ ?_ | refine Iv_new (by assumption) (by assumption) (by assumption) | refine Iv_th (by assumption) | refine Iv_u ?_ ?_ | refine Iv_cp ?_ ?_ | apply And.intro))
set_option maxRecDepth 100000 in
set_option maxHeartbeats 4000000 in
theorem hc_fX2_seeHeld (h00 : W 0) : ∀ (n : Nat) (pc : Nat) (r0 : Nat) (r1 : Nat) (x2 : Int32) (x3 : Int32) (x4 : Int32) (s0 : Int32) (q1 : Nat) (q2 : Nat) (M : ao_M) (ρ : ao_H), Iv W M0 ρ0 M ρ → W r0 → W r1 → W q1 → W q2 → ∀ z, fX2_seeHeld n pc r0 r1 x2 x3 x4 s0 q1 q2 M ρ = some z → Iv W M0 ρ0 z.2.1 z.2.2 := by
  intro n
  induction n with
  | zero => intros; exact absurd (by assumption) (by simp [fX2_seeHeld.eq_1])
  | succ n ih =>
    intro pc r0 r1 x2 x3 x4 s0 q1 q2 M ρ hI h_r0 h_r1 h_q1 h_q2
    rw [fX2_seeHeld.eq_2]
    repeat' (with_reducible (first | exact f_none | refine f_ite (fun hc => ?_) (fun hc => ?_) | refine f_letM (Iv_u (by assumption) ?_) (fun M' hM' => ?_) | refine f_letI (fun v => ?_) | refine f_cs (fun x => ?_) (fun E => ?_) | refine f_letM (Iv_cp (by assumption) ?_) (fun M' hM' => ?_) | refine f_letM (by assumption) (fun M' hM' => ?_) | refine ih _ _ _ _ _ _ _ _ _ _ _ (by assumption) ?_ ?_ ?_ ?_ | refine ih _ _ _ _ _ _ _ _ _ _ _ ?_ ?_ ?_ ?_ ?_ | refine f_bind (ih _ _ _ _ _ _ _ _ _ _ _ (by assumption) ?_ ?_ ?_ ?_) (fun y hy => ?_) | refine f_bind2 (hc_gX7_level h00 (by assumption) ?_) (fun y hy1 hy2 => ?_) | refine f_bind (hc_gX3_wrote h00 (by assumption) ?_) (fun y hy => ?_) | refine f_bind (hc_gX7_push h00 (by assumption) ?_) (fun y hy => ?_) | refine f_bind (hc_gX2_outermostWrong h00 (by assumption) ?_ ?_) (fun y hy => ?_) | refine f_bind (hc_gX2_restart h00 (by assumption) ?_ ?_) (fun y hy => ?_) | refine f_bind (hc_gX5_valueAt h00 (by assumption) ?_) (fun y hy => ?_) | refine f_bind2 (hc_gX7_innermost h00 (by assumption) ?_) (fun y hy1 hy2 => ?_) | refine f_bind (hc_gX3_addRead h00 (by assumption) ?_) (fun y hy => ?_)  | refine f_bindF (by assumption) ?_ (fun j hj => ?_) | refine f_bindZ (by assumption) (fun j hj hz => ?_) | refine f_some ?_ | assumption | exact okl (by assumption) | exact okw (by assumption) (by assumption) (by assumption) (by decide) | exact h00 | refine Iv_u (by assumption) ?_ | refine Iv_cp (by assumption) ?_ | refine Iv_r ?_ ?_ ?_ | refine Iv_new (by assumption) (by assumption) (by assumption) | refine Iv_th (by assumption) | refine Iv_u ?_ ?_ | refine Iv_cp ?_ ?_ | apply And.intro))
set_option maxRecDepth 100000 in
set_option maxHeartbeats 4000000 in
theorem hc_gX2_seeHeld (h00 : W 0) {n : Nat} {r0 : Nat} {r1 : Nat} {x2 : Int32} {M : ao_M} {ρ : ao_H} (hI : Iv W M0 ρ0 M ρ) (h_r0 : W r0) (h_r1 : W r1) : ∀ z, gX2_seeHeld n r0 r1 x2 M ρ = some z → Iv W M0 ρ0 z.2.1 z.2.2 := by
  unfold gX2_seeHeld
  exact hc_fX2_seeHeld h00 _ _ _ _ _ _ _ _ _ _ _ _ hI (by first | assumption | exact h00 | exact fun h => absurd h (by decide)) (by first | assumption | exact h00 | exact fun h => absurd h (by decide)) (by first | assumption | exact h00 | exact fun h => absurd h (by decide)) (by first | assumption | exact h00 | exact fun h => absurd h (by decide))
set_option maxRecDepth 100000 in
set_option maxHeartbeats 4000000 in
theorem hc_fX6_begin (h00 : W 0) : ∀ (n : Nat) (pc : Nat) (r0 : Nat) (x1 : Int32) (x2 : Int32) (x3 : Int32) (q0 : Nat) (s0 : Int32) (q1 : Nat) (M : ao_M) (ρ : ao_H), Iv W M0 ρ0 M ρ → W r0 → W q0 → W q1 → ∀ z, fX6_begin n pc r0 x1 x2 x3 q0 s0 q1 M ρ = some z → Iv W M0 ρ0 z ρ := by
  intro n
  induction n with
  | zero => intros; exact absurd (by assumption) (by simp [fX6_begin.eq_1])
  | succ n ih =>
    intro pc r0 x1 x2 x3 q0 s0 q1 M ρ hI h_r0 h_q0 h_q1
    rw [fX6_begin.eq_2]
    repeat' (with_reducible (first | exact f_none | refine f_ite (fun hc => ?_) (fun hc => ?_) | refine f_letM (Iv_u (by assumption) ?_) (fun M' hM' => ?_) | refine f_letI (fun v => ?_) | refine f_cs (fun x => ?_) (fun E => ?_) | refine f_letM (Iv_cp (by assumption) ?_) (fun M' hM' => ?_) | refine f_letM (by assumption) (fun M' hM' => ?_) | refine ih _ _ _ _ _ _ _ _ _ _ (by assumption) ?_ ?_ ?_ | refine ih _ _ _ _ _ _ _ _ _ _ ?_ ?_ ?_ ?_ | refine f_bind (ih _ _ _ _ _ _ _ _ _ _ (by assumption) ?_ ?_ ?_) (fun y hy => ?_)  | refine f_bindF (by assumption) ?_ (fun j hj => ?_) | refine f_bindZ (by assumption) (fun j hj hz => ?_) | refine f_some ?_ | assumption | exact okl (by assumption) | exact okw (by assumption) (by assumption) (by assumption) (by decide) | exact h00 | refine Iv_u (by assumption) ?_ | refine Iv_cp (by assumption) ?_ | refine Iv_r ?_ ?_ ?_ | refine Iv_new (by assumption) (by assumption) (by assumption) | refine Iv_th (by assumption) | refine Iv_u ?_ ?_ | refine Iv_cp ?_ ?_ | apply And.intro))
set_option maxRecDepth 100000 in
set_option maxHeartbeats 4000000 in
theorem hc_gX6_begin (h00 : W 0) {n : Nat} {r0 : Nat} {x1 : Int32} {x2 : Int32} {x3 : Int32} {M : ao_M} {ρ : ao_H} (hI : Iv W M0 ρ0 M ρ) (h_r0 : W r0) : ∀ z, gX6_begin n r0 x1 x2 x3 M ρ = some z → Iv W M0 ρ0 z ρ := by
  unfold gX6_begin
  exact hc_fX6_begin h00 _ _ _ _ _ _ _ _ _ _ _ hI (by first | assumption | exact h00 | exact fun h => absurd h (by decide)) (by first | assumption | exact h00 | exact fun h => absurd h (by decide)) (by first | assumption | exact h00 | exact fun h => absurd h (by decide))
set_option maxRecDepth 100000 in
set_option maxHeartbeats 4000000 in
theorem hc_fX6_note (h00 : W 0) : ∀ (n : Nat) (pc : Nat) (r0 : Nat) (r1 : Nat) (r2 : Nat) (r3 : Nat) (x4 : Int32) (x5 : Int32) (x6 : Int32) (x7 : Int32) (M : ao_M) (ρ : ao_H), Iv W M0 ρ0 M ρ → W r0 → W r1 → W r2 → W r3 → ∀ z, fX6_note n pc r0 r1 r2 r3 x4 x5 x6 x7 M ρ = some z → Iv W M0 ρ0 z ρ := by
  intro n
  induction n with
  | zero => intros; exact absurd (by assumption) (by simp [fX6_note.eq_1])
  | succ n ih =>
    intro pc r0 r1 r2 r3 x4 x5 x6 x7 M ρ hI h_r0 h_r1 h_r2 h_r3
    rw [fX6_note.eq_2]
    repeat' (with_reducible (first | exact f_none | refine f_ite (fun hc => ?_) (fun hc => ?_) | refine f_letM (Iv_u (by assumption) ?_) (fun M' hM' => ?_) | refine f_letI (fun v => ?_) | refine f_cs (fun x => ?_) (fun E => ?_) | refine f_letM (Iv_cp (by assumption) ?_) (fun M' hM' => ?_) | refine f_letM (by assumption) (fun M' hM' => ?_) | refine ih _ _ _ _ _ _ _ _ _ _ _ (by assumption) ?_ ?_ ?_ ?_ | refine ih _ _ _ _ _ _ _ _ _ _ _ ?_ ?_ ?_ ?_ ?_ | refine f_bind (ih _ _ _ _ _ _ _ _ _ _ _ (by assumption) ?_ ?_ ?_ ?_) (fun y hy => ?_)  | refine f_bindF (by assumption) ?_ (fun j hj => ?_) | refine f_bindZ (by assumption) (fun j hj hz => ?_) | refine f_some ?_ | assumption | exact okl (by assumption) | exact okw (by assumption) (by assumption) (by assumption) (by decide) | exact h00 | refine Iv_u (by assumption) ?_ | refine Iv_cp (by assumption) ?_ | refine Iv_r ?_ ?_ ?_ | refine Iv_new (by assumption) (by assumption) (by assumption) | refine Iv_th (by assumption) | refine Iv_u ?_ ?_ | refine Iv_cp ?_ ?_ | apply And.intro))
set_option maxRecDepth 100000 in
set_option maxHeartbeats 4000000 in
theorem hc_gX6_note (h00 : W 0) {n : Nat} {r0 : Nat} {r1 : Nat} {r2 : Nat} {r3 : Nat} {x4 : Int32} {x5 : Int32} {M : ao_M} {ρ : ao_H} (hI : Iv W M0 ρ0 M ρ) (h_r0 : W r0) (h_r1 : W r1) (h_r2 : W r2) (h_r3 : W r3) : ∀ z, gX6_note n r0 r1 r2 r3 x4 x5 M ρ = some z → Iv W M0 ρ0 z ρ := by
  unfold gX6_note
  exact hc_fX6_note h00 _ _ _ _ _ _ _ _ _ _ _ _ hI (by first | assumption | exact h00 | exact fun h => absurd h (by decide)) (by first | assumption | exact h00 | exact fun h => absurd h (by decide)) (by first | assumption | exact h00 | exact fun h => absurd h (by decide)) (by first | assumption | exact h00 | exact fun h => absurd h (by decide))
set_option maxRecDepth 100000 in
set_option maxHeartbeats 4000000 in
theorem hc_gX6_addRead (h00 : W 0) {n : Nat} {r0 : Nat} {x1 : Int32} {x2 : Int32} {M : ao_M} {ρ : ao_H} (hI : Iv W M0 ρ0 M ρ) (h_r0 : W r0) : ∀ z, gX6_addRead n r0 x1 x2 M ρ = some z → Iv W M0 ρ0 z ρ := by
  unfold gX6_addRead
  repeat' (with_reducible (first | exact f_none | refine f_ite (fun hc => ?_) (fun hc => ?_) | refine f_letM (Iv_u (by assumption) ?_) (fun M' hM' => ?_) | refine f_letI (fun v => ?_) | refine f_cs (fun x => ?_) (fun E => ?_) | refine f_letM (Iv_cp (by assumption) ?_) (fun M' hM' => ?_) | refine f_letM (by assumption) (fun M' hM' => ?_) | refine f_bind (hc_gX6_note h00 (by assumption) ?_ ?_ ?_ ?_) (fun y hy => ?_)  | refine f_bindF (by assumption) ?_ (fun j hj => ?_) | refine f_bindZ (by assumption) (fun j hj hz => ?_) | refine f_some ?_ | assumption | exact okl (by assumption) | exact okw (by assumption) (by assumption) (by assumption) (by decide) | exact h00 | refine Iv_u (by assumption) ?_ | refine Iv_cp (by assumption) ?_ | refine Iv_r ?_ ?_ ?_ | refine Iv_new (by assumption) (by assumption) (by assumption) | refine Iv_th (by assumption) | refine Iv_u ?_ ?_ | refine Iv_cp ?_ ?_ | apply And.intro))
set_option maxRecDepth 100000 in
set_option maxHeartbeats 4000000 in
theorem hc_gX5_isTakenBy (h00 : W 0) {r0 : Nat} {x1 : Int32} {x2 : Int32} {M : ao_M} {ρ : ao_H} (hI : Iv W M0 ρ0 M ρ) (h_r0 : W r0) : ∀ z, gX5_isTakenBy r0 x1 x2 M ρ = some z → Iv W M0 ρ0 z.2 ρ := by
  unfold gX5_isTakenBy
  repeat' (with_reducible (first | exact f_none | refine f_ite (fun hc => ?_) (fun hc => ?_) | refine f_letM (Iv_u (by assumption) ?_) (fun M' hM' => ?_) | refine f_letI (fun v => ?_) | refine f_cs (fun x => ?_) (fun E => ?_) | refine f_letM (Iv_cp (by assumption) ?_) (fun M' hM' => ?_) | refine f_letM (by assumption) (fun M' hM' => ?_)  | refine f_bindF (by assumption) ?_ (fun j hj => ?_) | refine f_bindZ (by assumption) (fun j hj hz => ?_) | refine f_some ?_ | assumption | exact okl (by assumption) | exact okw (by assumption) (by assumption) (by assumption) (by decide) | exact h00 | refine Iv_u (by assumption) ?_ | refine Iv_cp (by assumption) ?_ | refine Iv_r ?_ ?_ ?_ | refine Iv_new (by assumption) (by assumption) (by assumption) | refine Iv_th (by assumption) | refine Iv_u ?_ ?_ | refine Iv_cp ?_ ?_ | apply And.intro))
set_option maxRecDepth 100000 in
set_option maxHeartbeats 4000000 in
theorem hc_gX2_loserAbout (h00 : W 0) {r0 : Nat} {r1 : Nat} {x2 : Int32} {M : ao_M} {ρ : ao_H} (hI : Iv W M0 ρ0 M ρ) (h_r0 : W r0) (h_r1 : W r1) : ∀ z, gX2_loserAbout r0 r1 x2 M ρ = some z → Iv W M0 ρ0 z.2 ρ := by
  unfold gX2_loserAbout
  repeat' (with_reducible (first | exact f_none | refine f_ite (fun hc => ?_) (fun hc => ?_) | refine f_letM (Iv_u (by assumption) ?_) (fun M' hM' => ?_) | refine f_letI (fun v => ?_) | refine f_cs (fun x => ?_) (fun E => ?_) | refine f_letM (Iv_cp (by assumption) ?_) (fun M' hM' => ?_) | refine f_letM (by assumption) (fun M' hM' => ?_) | refine f_bind (hc_gX5_isTakenByOther h00 (by assumption) ?_) (fun y hy => ?_)  | refine f_bindF (by assumption) ?_ (fun j hj => ?_) | refine f_bindZ (by assumption) (fun j hj hz => ?_) | refine f_some ?_ | assumption | exact okl (by assumption) | exact okw (by assumption) (by assumption) (by assumption) (by decide) | exact h00 | refine Iv_u (by assumption) ?_ | refine Iv_cp (by assumption) ?_ | refine Iv_r ?_ ?_ ?_ | refine Iv_new (by assumption) (by assumption) (by assumption) | refine Iv_th (by assumption) | refine Iv_u ?_ ?_ | refine Iv_cp ?_ ?_ | apply And.intro))
set_option maxRecDepth 100000 in
set_option maxHeartbeats 4000000 in
theorem hc_fX2_mayTouch (h00 : W 0) : ∀ (n : Nat) (pc : Nat) (r0 : Nat) (r1 : Nat) (x2 : Int32) (x3 : Int32) (x4 : Int32) (M : ao_M) (ρ : ao_H), Iv W M0 ρ0 M ρ → W r0 → W r1 → ∀ z, fX2_mayTouch n pc r0 r1 x2 x3 x4 M ρ = some z → Iv W M0 ρ0 z.2.1 z.2.2 := by
  intro n
  induction n with
  | zero => intros; exact absurd (by assumption) (by simp [fX2_mayTouch.eq_1])
  | succ n ih =>
    intro pc r0 r1 x2 x3 x4 M ρ hI h_r0 h_r1
    rw [fX2_mayTouch.eq_2]
    repeat' (with_reducible (first | exact f_none | refine f_ite (fun hc => ?_) (fun hc => ?_) | refine f_letM (Iv_u (by assumption) ?_) (fun M' hM' => ?_) | refine f_letI (fun v => ?_) | refine f_cs (fun x => ?_) (fun E => ?_) | refine f_letM (Iv_cp (by assumption) ?_) (fun M' hM' => ?_) | refine f_letM (by assumption) (fun M' hM' => ?_) | refine ih _ _ _ _ _ _ _ _ (by assumption) ?_ ?_ | refine ih _ _ _ _ _ _ _ _ ?_ ?_ ?_ | refine f_bind (ih _ _ _ _ _ _ _ _ (by assumption) ?_ ?_) (fun y hy => ?_) | refine f_bind (hc_gX2_loserAbout h00 (by assumption) ?_ ?_) (fun y hy => ?_) | refine f_bind (hc_gX2_restart h00 (by assumption) ?_ ?_) (fun y hy => ?_) | refine f_bind (hc_gX2_outermostWrong h00 (by assumption) ?_ ?_) (fun y hy => ?_)  | refine f_bindF (by assumption) ?_ (fun j hj => ?_) | refine f_bindZ (by assumption) (fun j hj hz => ?_) | refine f_some ?_ | assumption | exact okl (by assumption) | exact okw (by assumption) (by assumption) (by assumption) (by decide) | exact h00 | refine Iv_u (by assumption) ?_ | refine Iv_cp (by assumption) ?_ | refine Iv_r ?_ ?_ ?_ | refine Iv_new (by assumption) (by assumption) (by assumption) | refine Iv_th (by assumption) | refine Iv_u ?_ ?_ | refine Iv_cp ?_ ?_ | apply And.intro))
set_option maxRecDepth 100000 in
set_option maxHeartbeats 4000000 in
theorem hc_gX2_mayTouch (h00 : W 0) {n : Nat} {r0 : Nat} {r1 : Nat} {x2 : Int32} {M : ao_M} {ρ : ao_H} (hI : Iv W M0 ρ0 M ρ) (h_r0 : W r0) (h_r1 : W r1) : ∀ z, gX2_mayTouch n r0 r1 x2 M ρ = some z → Iv W M0 ρ0 z.2.1 z.2.2 := by
  unfold gX2_mayTouch
  exact hc_fX2_mayTouch h00 _ _ _ _ _ _ _ _ _ hI (by first | assumption | exact h00 | exact fun h => absurd h (by decide)) (by first | assumption | exact h00 | exact fun h => absurd h (by decide))
set_option maxRecDepth 100000 in
set_option maxHeartbeats 4000000 in
theorem hc_fX2_see (h00 : W 0) : ∀ (n : Nat) (pc : Nat) (r0 : Nat) (r1 : Nat) (x2 : Int32) (s0 : Int32) (M : ao_M) (ρ : ao_H), Iv W M0 ρ0 M ρ → W r0 → W r1 → ∀ z, fX2_see n pc r0 r1 x2 s0 M ρ = some z → Iv W M0 ρ0 z.2.1 z.2.2 := by
  intro n
  induction n with
  | zero => intros; exact absurd (by assumption) (by simp [fX2_see.eq_1])
  | succ n ih =>
    intro pc r0 r1 x2 s0 M ρ hI h_r0 h_r1
    rw [fX2_see.eq_2]
    repeat' (with_reducible (first | exact f_none | refine f_ite (fun hc => ?_) (fun hc => ?_) | refine f_letM (Iv_u (by assumption) ?_) (fun M' hM' => ?_) | refine f_letI (fun v => ?_) | refine f_cs (fun x => ?_) (fun E => ?_) | refine f_letM (Iv_cp (by assumption) ?_) (fun M' hM' => ?_) | refine f_letM (by assumption) (fun M' hM' => ?_) | refine ih _ _ _ _ _ _ _ (by assumption) ?_ ?_ | refine ih _ _ _ _ _ _ _ ?_ ?_ ?_ | refine f_bind (ih _ _ _ _ _ _ _ (by assumption) ?_ ?_) (fun y hy => ?_) | refine f_bind (hc_gX2_writesAtOnce h00 (by assumption) ?_) (fun y hy => ?_) | refine f_bind (hc_gX2_seeHeld h00 (by assumption) ?_ ?_) (fun y hy => ?_) | refine f_bind (hc_gX6_begin h00 (by assumption) ?_) (fun y hy => ?_) | refine f_bind (hc_gX6_addRead h00 (by assumption) ?_) (fun y hy => ?_) | refine f_bind (hc_gX5_isTakenBy h00 (by assumption) ?_) (fun y hy => ?_) | refine f_bind (hc_gX2_mayTouch h00 (by assumption) ?_ ?_) (fun y hy => ?_) | refine f_bind2 (hc_gX7_innermost h00 (by assumption) ?_) (fun y hy1 hy2 => ?_) | refine f_bind (hc_gX3_addRead h00 (by assumption) ?_) (fun y hy => ?_) | refine f_bind (hc_gX7_push h00 (by assumption) ?_) (fun y hy => ?_)  | refine f_bindF (by assumption) ?_ (fun j hj => ?_) | refine f_bindZ (by assumption) (fun j hj hz => ?_) | refine f_some ?_ | assumption | exact okl (by assumption) | exact okw (by assumption) (by assumption) (by assumption) (by decide) | exact h00 | refine Iv_u (by assumption) ?_ | refine Iv_cp (by assumption) ?_ | refine Iv_r ?_ ?_ ?_ | refine Iv_new (by assumption) (by assumption) (by assumption) | refine Iv_th (by assumption) | refine Iv_u ?_ ?_ | refine Iv_cp ?_ ?_ | apply And.intro))
set_option maxRecDepth 100000 in
set_option maxHeartbeats 4000000 in
theorem hc_gX2_see (h00 : W 0) {n : Nat} {r0 : Nat} {r1 : Nat} {x2 : Int32} {M : ao_M} {ρ : ao_H} (hI : Iv W M0 ρ0 M ρ) (h_r0 : W r0) (h_r1 : W r1) : ∀ z, gX2_see n r0 r1 x2 M ρ = some z → Iv W M0 ρ0 z.2.1 z.2.2 := by
  unfold gX2_see
  exact hc_fX2_see h00 _ _ _ _ _ _ _ _ hI (by first | assumption | exact h00 | exact fun h => absurd h (by decide)) (by first | assumption | exact h00 | exact fun h => absurd h (by decide))
set_option maxRecDepth 100000 in
set_option maxHeartbeats 4000000 in
theorem hc_gX7_pop (h00 : W 0) {r0 : Nat} {M : ao_M} {ρ : ao_H} (hI : Iv W M0 ρ0 M ρ) (h_r0 : W r0) : ∀ z, gX7_pop r0 M ρ = some z → Iv W M0 ρ0 z.2 ρ := by
  unfold gX7_pop
  repeat' (with_reducible (first | exact f_none | refine f_ite (fun hc => ?_) (fun hc => ?_) | refine f_letM (Iv_u (by assumption) ?_) (fun M' hM' => ?_) | refine f_letI (fun v => ?_) | refine f_cs (fun x => ?_) (fun E => ?_) | refine f_letM (Iv_cp (by assumption) ?_) (fun M' hM' => ?_) | refine f_letM (by assumption) (fun M' hM' => ?_)  | refine f_bindF (by assumption) ?_ (fun j hj => ?_) | refine f_bindZ (by assumption) (fun j hj hz => ?_) | refine f_some ?_ | assumption | exact okl (by assumption) | exact okw (by assumption) (by assumption) (by assumption) (by decide) | exact h00 | refine Iv_u (by assumption) ?_ | refine Iv_cp (by assumption) ?_ | refine Iv_r ?_ ?_ ?_ | refine Iv_new (by assumption) (by assumption) (by assumption) | refine Iv_th (by assumption) | refine Iv_u ?_ ?_ | refine Iv_cp ?_ ?_ | apply And.intro))
set_option maxRecDepth 100000 in
set_option maxHeartbeats 4000000 in
theorem hc_gX3_addWrite (h00 : W 0) {r0 : Nat} {x1 : Int32} {x2 : Int32} {M : ao_M} {ρ : ao_H} (hI : Iv W M0 ρ0 M ρ) (h_r0 : W r0) : ∀ z, gX3_addWrite r0 x1 x2 M ρ = some z → Iv W M0 ρ0 z ρ := by
  unfold gX3_addWrite
  repeat' (with_reducible (first | exact f_none | refine f_ite (fun hc => ?_) (fun hc => ?_) | refine f_letM (Iv_u (by assumption) ?_) (fun M' hM' => ?_) | refine f_letI (fun v => ?_) | refine f_cs (fun x => ?_) (fun E => ?_) | refine f_letM (Iv_cp (by assumption) ?_) (fun M' hM' => ?_) | refine f_letM (by assumption) (fun M' hM' => ?_)  | refine f_bindF (by assumption) ?_ (fun j hj => ?_) | refine f_bindZ (by assumption) (fun j hj hz => ?_) | refine f_some ?_ | assumption | exact okl (by assumption) | exact okw (by assumption) (by assumption) (by assumption) (by decide) | exact h00 | refine Iv_u (by assumption) ?_ | refine Iv_cp (by assumption) ?_ | refine Iv_r ?_ ?_ ?_ | refine Iv_new (by assumption) (by assumption) (by assumption) | refine Iv_th (by assumption) | refine Iv_u ?_ ?_ | refine Iv_cp ?_ ?_ | apply And.intro))
set_option maxRecDepth 100000 in
set_option maxHeartbeats 4000000 in
theorem hc_gX6_addWrite (h00 : W 0) {n : Nat} {r0 : Nat} {x1 : Int32} {x2 : Int32} {M : ao_M} {ρ : ao_H} (hI : Iv W M0 ρ0 M ρ) (h_r0 : W r0) : ∀ z, gX6_addWrite n r0 x1 x2 M ρ = some z → Iv W M0 ρ0 z ρ := by
  unfold gX6_addWrite
  repeat' (with_reducible (first | exact f_none | refine f_ite (fun hc => ?_) (fun hc => ?_) | refine f_letM (Iv_u (by assumption) ?_) (fun M' hM' => ?_) | refine f_letI (fun v => ?_) | refine f_cs (fun x => ?_) (fun E => ?_) | refine f_letM (Iv_cp (by assumption) ?_) (fun M' hM' => ?_) | refine f_letM (by assumption) (fun M' hM' => ?_) | refine f_bind (hc_gX6_note h00 (by assumption) ?_ ?_ ?_ ?_) (fun y hy => ?_)  | refine f_bindF (by assumption) ?_ (fun j hj => ?_) | refine f_bindZ (by assumption) (fun j hj hz => ?_) | refine f_some ?_ | assumption | exact okl (by assumption) | exact okw (by assumption) (by assumption) (by assumption) (by decide) | exact h00 | refine Iv_u (by assumption) ?_ | refine Iv_cp (by assumption) ?_ | refine Iv_r ?_ ?_ ?_ | refine Iv_new (by assumption) (by assumption) (by assumption) | refine Iv_th (by assumption) | refine Iv_u ?_ ?_ | refine Iv_cp ?_ ?_ | apply And.intro))
set_option maxRecDepth 100000 in
set_option maxHeartbeats 4000000 in
theorem hc_fX2_write (h00 : W 0) : ∀ (n : Nat) (pc : Nat) (r0 : Nat) (r1 : Nat) (x2 : Int32) (x3 : Int32) (s0 : Int32) (M : ao_M) (ρ : ao_H), Iv W M0 ρ0 M ρ → W r0 → W r1 → ∀ z, fX2_write n pc r0 r1 x2 x3 s0 M ρ = some z → Iv W M0 ρ0 z.2.1 z.2.2 := by
  intro n
  induction n with
  | zero => intros; exact absurd (by assumption) (by simp [fX2_write.eq_1])
  | succ n ih =>
    intro pc r0 r1 x2 x3 s0 M ρ hI h_r0 h_r1
    rw [fX2_write.eq_2]
    repeat' (with_reducible (first | exact f_none | refine f_ite (fun hc => ?_) (fun hc => ?_) | refine f_letM (Iv_u (by assumption) ?_) (fun M' hM' => ?_) | refine f_letI (fun v => ?_) | refine f_cs (fun x => ?_) (fun E => ?_) | refine f_letM (Iv_cp (by assumption) ?_) (fun M' hM' => ?_) | refine f_letM (by assumption) (fun M' hM' => ?_) | refine ih _ _ _ _ _ _ _ _ (by assumption) ?_ ?_ | refine ih _ _ _ _ _ _ _ _ ?_ ?_ ?_ | refine f_bind (ih _ _ _ _ _ _ _ _ (by assumption) ?_ ?_) (fun y hy => ?_) | refine f_bind (hc_gX5_change h00 (by assumption) ?_) (fun y hy => ?_) | refine f_bind (hc_gX2_writesAtOnce h00 (by assumption) ?_) (fun y hy => ?_) | refine f_bind2 (hc_gX7_innermost h00 (by assumption) ?_) (fun y hy1 hy2 => ?_) | refine f_bind (hc_gX3_addWrite h00 (by assumption) ?_) (fun y hy => ?_) | refine f_bind (hc_gX2_mayTouch h00 (by assumption) ?_ ?_) (fun y hy => ?_) | refine f_bind (hc_gX6_begin h00 (by assumption) ?_) (fun y hy => ?_) | refine f_bind (hc_gX6_addWrite h00 (by assumption) ?_) (fun y hy => ?_) | refine f_bind (hc_gX3_wrote h00 (by assumption) ?_) (fun y hy => ?_)  | refine f_bindF (by assumption) ?_ (fun j hj => ?_) | refine f_bindZ (by assumption) (fun j hj hz => ?_) | refine f_some ?_ | assumption | exact okl (by assumption) | exact okw (by assumption) (by assumption) (by assumption) (by decide) | exact h00 | refine Iv_u (by assumption) ?_ | refine Iv_cp (by assumption) ?_ | refine Iv_r ?_ ?_ ?_ | refine Iv_new (by assumption) (by assumption) (by assumption) | refine Iv_th (by assumption) | refine Iv_u ?_ ?_ | refine Iv_cp ?_ ?_ | apply And.intro))
set_option maxRecDepth 100000 in
set_option maxHeartbeats 4000000 in
theorem hc_gX2_write (h00 : W 0) {n : Nat} {r0 : Nat} {r1 : Nat} {x2 : Int32} {x3 : Int32} {M : ao_M} {ρ : ao_H} (hI : Iv W M0 ρ0 M ρ) (h_r0 : W r0) (h_r1 : W r1) : ∀ z, gX2_write n r0 r1 x2 x3 M ρ = some z → Iv W M0 ρ0 z.2.1 z.2.2 := by
  unfold gX2_write
  exact hc_fX2_write h00 _ _ _ _ _ _ _ _ _ hI (by first | assumption | exact h00 | exact fun h => absurd h (by decide)) (by first | assumption | exact h00 | exact fun h => absurd h (by decide))
set_option maxRecDepth 100000 in
set_option maxHeartbeats 4000000 in
theorem hc_gX2_again (h00 : W 0) {r0 : Nat} {x1 : Int32} {M : ao_M} {ρ : ao_H} (hI : Iv W M0 ρ0 M ρ) (h_r0 : W r0) : ∀ z, gX2_again r0 x1 M ρ = some z → Iv W M0 ρ0 z.2 ρ := by
  unfold gX2_again
  repeat' (with_reducible (first | exact f_none | refine f_ite (fun hc => ?_) (fun hc => ?_) | refine f_letM (Iv_u (by assumption) ?_) (fun M' hM' => ?_) | refine f_letI (fun v => ?_) | refine f_cs (fun x => ?_) (fun E => ?_) | refine f_letM (Iv_cp (by assumption) ?_) (fun M' hM' => ?_) | refine f_letM (by assumption) (fun M' hM' => ?_) | refine f_bind (hc_gX7_pop h00 (by assumption) ?_) (fun y hy => ?_)  | refine f_bindF (by assumption) ?_ (fun j hj => ?_) | refine f_bindZ (by assumption) (fun j hj hz => ?_) | refine f_some ?_ | assumption | exact okl (by assumption) | exact okw (by assumption) (by assumption) (by assumption) (by decide) | exact h00 | refine Iv_u (by assumption) ?_ | refine Iv_cp (by assumption) ?_ | refine Iv_r ?_ ?_ ?_ | refine Iv_new (by assumption) (by assumption) (by assumption) | refine Iv_th (by assumption) | refine Iv_u ?_ ?_ | refine Iv_cp ?_ ?_ | apply And.intro))
set_option maxRecDepth 100000 in
set_option maxHeartbeats 4000000 in
theorem hc_gX8_add (h00 : W 0) {r0 : Nat} {x1 : Int32} {x2 : Int32} {M : ao_M} {ρ : ao_H} (hI : Iv W M0 ρ0 M ρ) (h_r0 : W r0) : ∀ z, gX8_add r0 x1 x2 M ρ = some z → Iv W M0 ρ0 z ρ := by
  unfold gX8_add
  repeat' (with_reducible (first | exact f_none | refine f_ite (fun hc => ?_) (fun hc => ?_) | refine f_letM (Iv_u (by assumption) ?_) (fun M' hM' => ?_) | refine f_letI (fun v => ?_) | refine f_cs (fun x => ?_) (fun E => ?_) | refine f_letM (Iv_cp (by assumption) ?_) (fun M' hM' => ?_) | refine f_letM (by assumption) (fun M' hM' => ?_)  | refine f_bindF (by assumption) ?_ (fun j hj => ?_) | refine f_bindZ (by assumption) (fun j hj hz => ?_) | refine f_some ?_ | assumption | exact okl (by assumption) | exact okw (by assumption) (by assumption) (by assumption) (by decide) | exact h00 | refine Iv_u (by assumption) ?_ | refine Iv_cp (by assumption) ?_ | refine Iv_r ?_ ?_ ?_ | refine Iv_new (by assumption) (by assumption) (by assumption) | refine Iv_th (by assumption) | refine Iv_u ?_ ?_ | refine Iv_cp ?_ ?_ | apply And.intro))
set_option maxRecDepth 100000 in
set_option maxHeartbeats 4000000 in
theorem hc_gX7_hold (h00 : W 0) {r0 : Nat} {x1 : Int32} {M : ao_M} {ρ : ao_H} (hI : Iv W M0 ρ0 M ρ) (h_r0 : W r0) : ∀ z, gX7_hold r0 x1 M ρ = some z → Iv W M0 ρ0 z ρ := by
  unfold gX7_hold
  repeat' (with_reducible (first | exact f_none | refine f_ite (fun hc => ?_) (fun hc => ?_) | refine f_letM (Iv_u (by assumption) ?_) (fun M' hM' => ?_) | refine f_letI (fun v => ?_) | refine f_cs (fun x => ?_) (fun E => ?_) | refine f_letM (Iv_cp (by assumption) ?_) (fun M' hM' => ?_) | refine f_letM (by assumption) (fun M' hM' => ?_)  | refine f_bindF (by assumption) ?_ (fun j hj => ?_) | refine f_bindZ (by assumption) (fun j hj hz => ?_) | refine f_some ?_ | assumption | exact okl (by assumption) | exact okw (by assumption) (by assumption) (by assumption) (by decide) | exact h00 | refine Iv_u (by assumption) ?_ | refine Iv_cp (by assumption) ?_ | refine Iv_r ?_ ?_ ?_ | refine Iv_new (by assumption) (by assumption) (by assumption) | refine Iv_th (by assumption) | refine Iv_u ?_ ?_ | refine Iv_cp ?_ ?_ | apply And.intro))
set_option maxRecDepth 100000 in
set_option maxHeartbeats 4000000 in
theorem hc_gX2_say (h00 : W 0) {r0 : Nat} {r1 : Nat} {x2 : Int32} {M : ao_M} {ρ : ao_H} (hI : Iv W M0 ρ0 M ρ) (h_r0 : W r0) (h_r1 : W r1) : ∀ z, gX2_say r0 r1 x2 M ρ = some z → Iv W M0 ρ0 z.2 ρ := by
  unfold gX2_say
  repeat' (with_reducible (first | exact f_none | refine f_ite (fun hc => ?_) (fun hc => ?_) | refine f_letM (Iv_u (by assumption) ?_) (fun M' hM' => ?_) | refine f_letI (fun v => ?_) | refine f_cs (fun x => ?_) (fun E => ?_) | refine f_letM (Iv_cp (by assumption) ?_) (fun M' hM' => ?_) | refine f_letM (by assumption) (fun M' hM' => ?_) | refine f_bind (hc_gX8_add h00 (by assumption) ?_) (fun y hy => ?_) | refine f_bind (hc_gX7_hold h00 (by assumption) ?_) (fun y hy => ?_)  | refine f_bindF (by assumption) ?_ (fun j hj => ?_) | refine f_bindZ (by assumption) (fun j hj hz => ?_) | refine f_some ?_ | assumption | exact okl (by assumption) | exact okw (by assumption) (by assumption) (by assumption) (by decide) | exact h00 | refine Iv_u (by assumption) ?_ | refine Iv_cp (by assumption) ?_ | refine Iv_r ?_ ?_ ?_ | refine Iv_new (by assumption) (by assumption) (by assumption) | refine Iv_th (by assumption) | refine Iv_u ?_ ?_ | refine Iv_cp ?_ ?_ | apply And.intro))
set_option maxRecDepth 100000 in
set_option maxHeartbeats 4000000 in
theorem hc_gX7_enterLevel (h00 : W 0) {n : Nat} {r0 : Nat} {x1 : Int32} {M : ao_M} {ρ : ao_H} (hI : Iv W M0 ρ0 M ρ) (h_r0 : W r0) : ∀ z, gX7_enterLevel n r0 x1 M ρ = some z → Iv W M0 ρ0 z ρ := by
  unfold gX7_enterLevel
  repeat' (with_reducible (first | exact f_none | refine f_ite (fun hc => ?_) (fun hc => ?_) | refine f_letM (Iv_u (by assumption) ?_) (fun M' hM' => ?_) | refine f_letI (fun v => ?_) | refine f_cs (fun x => ?_) (fun E => ?_) | refine f_letM (Iv_cp (by assumption) ?_) (fun M' hM' => ?_) | refine f_letM (by assumption) (fun M' hM' => ?_) | refine f_bind2 (hc_gX7_level h00 (by assumption) ?_) (fun y hy1 hy2 => ?_) | refine f_bind (hc_gX3_forgetReads h00 (by assumption) ?_) (fun y hy => ?_) | refine f_bind (hc_gX3_forgetWrites h00 (by assumption) ?_) (fun y hy => ?_)  | refine f_bindF (by assumption) ?_ (fun j hj => ?_) | refine f_bindZ (by assumption) (fun j hj hz => ?_) | refine f_some ?_ | assumption | exact okl (by assumption) | exact okw (by assumption) (by assumption) (by assumption) (by decide) | exact h00 | refine Iv_u (by assumption) ?_ | refine Iv_cp (by assumption) ?_ | refine Iv_r ?_ ?_ ?_ | refine Iv_new (by assumption) (by assumption) (by assumption) | refine Iv_th (by assumption) | refine Iv_u ?_ ?_ | refine Iv_cp ?_ ?_ | apply And.intro))
set_option maxRecDepth 100000 in
set_option maxHeartbeats 4000000 in
theorem hc_gX2_beginLevel (h00 : W 0) {n : Nat} {r0 : Nat} {r1 : Nat} {x2 : Int32} {M : ao_M} {ρ : ao_H} (hI : Iv W M0 ρ0 M ρ) (h_r0 : W r0) (h_r1 : W r1) : ∀ z, gX2_beginLevel n r0 r1 x2 M ρ = some z → Iv W M0 ρ0 z.2 ρ := by
  unfold gX2_beginLevel
  repeat' (with_reducible (first | exact f_none | refine f_ite (fun hc => ?_) (fun hc => ?_) | refine f_letM (Iv_u (by assumption) ?_) (fun M' hM' => ?_) | refine f_letI (fun v => ?_) | refine f_cs (fun x => ?_) (fun E => ?_) | refine f_letM (Iv_cp (by assumption) ?_) (fun M' hM' => ?_) | refine f_letM (by assumption) (fun M' hM' => ?_) | refine f_bind (hc_gX2_isBusy h00 (by assumption) ?_ ?_) (fun y hy => ?_) | refine f_bind (hc_gX7_enterLevel h00 (by assumption) ?_) (fun y hy => ?_)  | refine f_bindF (by assumption) ?_ (fun j hj => ?_) | refine f_bindZ (by assumption) (fun j hj hz => ?_) | refine f_some ?_ | assumption | exact okl (by assumption) | exact okw (by assumption) (by assumption) (by assumption) (by decide) | exact h00 | refine Iv_u (by assumption) ?_ | refine Iv_cp (by assumption) ?_ | refine Iv_r ?_ ?_ ?_ | refine Iv_new (by assumption) (by assumption) (by assumption) | refine Iv_th (by assumption) | refine Iv_u ?_ ?_ | refine Iv_cp ?_ ?_ | apply And.intro))
set_option maxRecDepth 100000 in
set_option maxHeartbeats 4000000 in
theorem hc_gX1_secondAt (h00 : W 0) {r0 : Nat} {x1 : Int32} {M : ao_M} {ρ : ao_H} (hI : Iv W M0 ρ0 M ρ) (h_r0 : W r0) : ∀ z, gX1_secondAt r0 x1 M ρ = some z → Iv W M0 ρ0 z.2 ρ := by
  unfold gX1_secondAt
  repeat' (with_reducible (first | exact f_none | refine f_ite (fun hc => ?_) (fun hc => ?_) | refine f_letM (Iv_u (by assumption) ?_) (fun M' hM' => ?_) | refine f_letI (fun v => ?_) | refine f_cs (fun x => ?_) (fun E => ?_) | refine f_letM (Iv_cp (by assumption) ?_) (fun M' hM' => ?_) | refine f_letM (by assumption) (fun M' hM' => ?_)  | refine f_bindF (by assumption) ?_ (fun j hj => ?_) | refine f_bindZ (by assumption) (fun j hj hz => ?_) | refine f_some ?_ | assumption | exact okl (by assumption) | exact okw (by assumption) (by assumption) (by assumption) (by decide) | exact h00 | refine Iv_u (by assumption) ?_ | refine Iv_cp (by assumption) ?_ | refine Iv_r ?_ ?_ ?_ | refine Iv_new (by assumption) (by assumption) (by assumption) | refine Iv_th (by assumption) | refine Iv_u ?_ ?_ | refine Iv_cp ?_ ?_ | apply And.intro))
set_option maxRecDepth 100000 in
set_option maxHeartbeats 4000000 in
theorem hc_fX2_mayEnd (h00 : W 0) : ∀ (n : Nat) (pc : Nat) (r0 : Nat) (r1 : Nat) (r2 : Nat) (x3 : Int32) (x4 : Int32) (M : ao_M) (ρ : ao_H), Iv W M0 ρ0 M ρ → W r0 → W r1 → W r2 → ∀ z, fX2_mayEnd n pc r0 r1 r2 x3 x4 M ρ = some z → Iv W M0 ρ0 z.2.1 z.2.2 := by
  intro n
  induction n with
  | zero => intros; exact absurd (by assumption) (by simp [fX2_mayEnd.eq_1])
  | succ n ih =>
    intro pc r0 r1 r2 x3 x4 M ρ hI h_r0 h_r1 h_r2
    rw [fX2_mayEnd.eq_2]
    repeat' (with_reducible (first | exact f_none | refine f_ite (fun hc => ?_) (fun hc => ?_) | refine f_letM (Iv_u (by assumption) ?_) (fun M' hM' => ?_) | refine f_letI (fun v => ?_) | refine f_cs (fun x => ?_) (fun E => ?_) | refine f_letM (Iv_cp (by assumption) ?_) (fun M' hM' => ?_) | refine f_letM (by assumption) (fun M' hM' => ?_) | refine ih _ _ _ _ _ _ _ _ (by assumption) ?_ ?_ ?_ | refine ih _ _ _ _ _ _ _ _ ?_ ?_ ?_ ?_ | refine f_bind (ih _ _ _ _ _ _ _ _ (by assumption) ?_ ?_ ?_) (fun y hy => ?_) | refine f_bind2 (hc_gX7_level h00 (by assumption) ?_) (fun y hy1 hy2 => ?_) | refine f_bind (hc_gX2_loserAbout h00 (by assumption) ?_ ?_) (fun y hy => ?_) | refine f_bind (hc_gX2_restart h00 (by assumption) ?_ ?_) (fun y hy => ?_) | refine f_bind (hc_gX2_outermostWrong h00 (by assumption) ?_ ?_) (fun y hy => ?_)  | refine f_bindF (by assumption) ?_ (fun j hj => ?_) | refine f_bindZ (by assumption) (fun j hj hz => ?_) | refine f_some ?_ | assumption | exact okl (by assumption) | exact okw (by assumption) (by assumption) (by assumption) (by decide) | exact h00 | refine Iv_u (by assumption) ?_ | refine Iv_cp (by assumption) ?_ | refine Iv_r ?_ ?_ ?_ | refine Iv_new (by assumption) (by assumption) (by assumption) | refine Iv_th (by assumption) | refine Iv_u ?_ ?_ | refine Iv_cp ?_ ?_ | apply And.intro))
set_option maxRecDepth 100000 in
set_option maxHeartbeats 4000000 in
theorem hc_gX2_mayEnd (h00 : W 0) {n : Nat} {r0 : Nat} {r1 : Nat} {M : ao_M} {ρ : ao_H} (hI : Iv W M0 ρ0 M ρ) (h_r0 : W r0) (h_r1 : W r1) : ∀ z, gX2_mayEnd n r0 r1 M ρ = some z → Iv W M0 ρ0 z.2.1 z.2.2 := by
  unfold gX2_mayEnd
  exact hc_fX2_mayEnd h00 _ _ _ _ _ _ _ _ _ hI (by first | assumption | exact h00 | exact fun h => absurd h (by decide)) (by first | assumption | exact h00 | exact fun h => absurd h (by decide)) (by first | assumption | exact h00 | exact fun h => absurd h (by decide))
set_option maxRecDepth 100000 in
set_option maxHeartbeats 4000000 in
theorem hc_fX3_takeReadsOf (h00 : W 0) : ∀ (n : Nat) (pc : Nat) (r0 : Nat) (r1 : Nat) (x2 : Int32) (M : ao_M) (ρ : ao_H), Iv W M0 ρ0 M ρ → W r0 → W r1 → ∀ z, fX3_takeReadsOf n pc r0 r1 x2 M ρ = some z → Iv W M0 ρ0 z ρ := by
  intro n
  induction n with
  | zero => intros; exact absurd (by assumption) (by simp [fX3_takeReadsOf.eq_1])
  | succ n ih =>
    intro pc r0 r1 x2 M ρ hI h_r0 h_r1
    rw [fX3_takeReadsOf.eq_2]
    repeat' (with_reducible (first | exact f_none | refine f_ite (fun hc => ?_) (fun hc => ?_) | refine f_letM (Iv_u (by assumption) ?_) (fun M' hM' => ?_) | refine f_letI (fun v => ?_) | refine f_cs (fun x => ?_) (fun E => ?_) | refine f_letM (Iv_cp (by assumption) ?_) (fun M' hM' => ?_) | refine f_letM (by assumption) (fun M' hM' => ?_) | refine ih _ _ _ _ _ _ (by assumption) ?_ ?_ | refine ih _ _ _ _ _ _ ?_ ?_ ?_ | refine f_bind (ih _ _ _ _ _ _ (by assumption) ?_ ?_) (fun y hy => ?_) | refine f_bind (hc_gX3_addRead h00 (by assumption) ?_) (fun y hy => ?_) | refine f_bind (hc_gX3_forgetReads h00 (by assumption) ?_) (fun y hy => ?_)  | refine f_bindF (by assumption) ?_ (fun j hj => ?_) | refine f_bindZ (by assumption) (fun j hj hz => ?_) | refine f_some ?_ | assumption | exact okl (by assumption) | exact okw (by assumption) (by assumption) (by assumption) (by decide) | exact h00 | refine Iv_u (by assumption) ?_ | refine Iv_cp (by assumption) ?_ | refine Iv_r ?_ ?_ ?_ | refine Iv_new (by assumption) (by assumption) (by assumption) | refine Iv_th (by assumption) | refine Iv_u ?_ ?_ | refine Iv_cp ?_ ?_ | apply And.intro))
set_option maxRecDepth 100000 in
set_option maxHeartbeats 4000000 in
theorem hc_gX3_takeReadsOf (h00 : W 0) {n : Nat} {r0 : Nat} {r1 : Nat} {M : ao_M} {ρ : ao_H} (hI : Iv W M0 ρ0 M ρ) (h_r0 : W r0) (h_r1 : W r1) : ∀ z, gX3_takeReadsOf n r0 r1 M ρ = some z → Iv W M0 ρ0 z ρ := by
  unfold gX3_takeReadsOf
  exact hc_fX3_takeReadsOf h00 _ _ _ _ _ _ _ hI (by first | assumption | exact h00 | exact fun h => absurd h (by decide)) (by first | assumption | exact h00 | exact fun h => absurd h (by decide))
set_option maxRecDepth 100000 in
set_option maxHeartbeats 4000000 in
theorem hc_fX2_joinAround (h00 : W 0) : ∀ (n : Nat) (pc : Nat) (r0 : Nat) (r1 : Nat) (r2 : Nat) (r3 : Nat) (x4 : Int32) (M : ao_M) (ρ : ao_H), Iv W M0 ρ0 M ρ → W r0 → W r1 → W r2 → W r3 → ∀ z, fX2_joinAround n pc r0 r1 r2 r3 x4 M ρ = some z → Iv W M0 ρ0 z ρ := by
  intro n
  induction n with
  | zero => intros; exact absurd (by assumption) (by simp [fX2_joinAround.eq_1])
  | succ n ih =>
    intro pc r0 r1 r2 r3 x4 M ρ hI h_r0 h_r1 h_r2 h_r3
    rw [fX2_joinAround.eq_2]
    repeat' (with_reducible (first | exact f_none | refine f_ite (fun hc => ?_) (fun hc => ?_) | refine f_letM (Iv_u (by assumption) ?_) (fun M' hM' => ?_) | refine f_letI (fun v => ?_) | refine f_cs (fun x => ?_) (fun E => ?_) | refine f_letM (Iv_cp (by assumption) ?_) (fun M' hM' => ?_) | refine f_letM (by assumption) (fun M' hM' => ?_) | refine ih _ _ _ _ _ _ _ _ (by assumption) ?_ ?_ ?_ ?_ | refine ih _ _ _ _ _ _ _ _ ?_ ?_ ?_ ?_ ?_ | refine f_bind (ih _ _ _ _ _ _ _ _ (by assumption) ?_ ?_ ?_ ?_) (fun y hy => ?_) | refine f_bind2 (hc_gX7_level h00 (by assumption) ?_) (fun y hy1 hy2 => ?_) | refine f_bind (hc_gX3_takeReadsOf h00 (by assumption) ?_ ?_) (fun y hy => ?_) | refine f_bind (hc_gX3_forgetWrites h00 (by assumption) ?_) (fun y hy => ?_) | refine f_bind (hc_gX3_wrote h00 (by assumption) ?_) (fun y hy => ?_) | refine f_bind (hc_gX2_writesAtOnce h00 (by assumption) ?_) (fun y hy => ?_) | refine f_bind (hc_gX3_addWrite h00 (by assumption) ?_) (fun y hy => ?_)  | refine f_bindF (by assumption) ?_ (fun j hj => ?_) | refine f_bindZ (by assumption) (fun j hj hz => ?_) | refine f_some ?_ | assumption | exact okl (by assumption) | exact okw (by assumption) (by assumption) (by assumption) (by decide) | exact h00 | refine Iv_u (by assumption) ?_ | refine Iv_cp (by assumption) ?_ | refine Iv_r ?_ ?_ ?_ | refine Iv_new (by assumption) (by assumption) (by assumption) | refine Iv_th (by assumption) | refine Iv_u ?_ ?_ | refine Iv_cp ?_ ?_ | apply And.intro))
set_option maxRecDepth 100000 in
set_option maxHeartbeats 4000000 in
theorem hc_gX2_joinAround (h00 : W 0) {n : Nat} {r0 : Nat} {r1 : Nat} {M : ao_M} {ρ : ao_H} (hI : Iv W M0 ρ0 M ρ) (h_r0 : W r0) (h_r1 : W r1) : ∀ z, gX2_joinAround n r0 r1 M ρ = some z → Iv W M0 ρ0 z ρ := by
  unfold gX2_joinAround
  exact hc_fX2_joinAround h00 _ _ _ _ _ _ _ _ _ hI (by first | assumption | exact h00 | exact fun h => absurd h (by decide)) (by first | assumption | exact h00 | exact fun h => absurd h (by decide)) (by first | assumption | exact h00 | exact fun h => absurd h (by decide)) (by first | assumption | exact h00 | exact fun h => absurd h (by decide))
set_option maxRecDepth 100000 in
set_option maxHeartbeats 4000000 in
theorem hc_fX2_writeRecord (h00 : W 0) : ∀ (n : Nat) (pc : Nat) (r0 : Nat) (r1 : Nat) (r2 : Nat) (x3 : Int32) (M : ao_M) (ρ : ao_H), Iv W M0 ρ0 M ρ → W r0 → W r1 → W r2 → ∀ z, fX2_writeRecord n pc r0 r1 r2 x3 M ρ = some z → Iv W M0 ρ0 z ρ := by
  intro n
  induction n with
  | zero => intros; exact absurd (by assumption) (by simp [fX2_writeRecord.eq_1])
  | succ n ih =>
    intro pc r0 r1 r2 x3 M ρ hI h_r0 h_r1 h_r2
    rw [fX2_writeRecord.eq_2]
    repeat' (with_reducible (first | exact f_none | refine f_ite (fun hc => ?_) (fun hc => ?_) | refine f_letM (Iv_u (by assumption) ?_) (fun M' hM' => ?_) | refine f_letI (fun v => ?_) | refine f_cs (fun x => ?_) (fun E => ?_) | refine f_letM (Iv_cp (by assumption) ?_) (fun M' hM' => ?_) | refine f_letM (by assumption) (fun M' hM' => ?_) | refine ih _ _ _ _ _ _ _ (by assumption) ?_ ?_ ?_ | refine ih _ _ _ _ _ _ _ ?_ ?_ ?_ ?_ | refine f_bind (ih _ _ _ _ _ _ _ (by assumption) ?_ ?_ ?_) (fun y hy => ?_) | refine f_bind (hc_gX6_begin h00 (by assumption) ?_) (fun y hy => ?_) | refine f_bind (hc_gX6_addRead h00 (by assumption) ?_) (fun y hy => ?_) | refine f_bind (hc_gX3_wrote h00 (by assumption) ?_) (fun y hy => ?_) | refine f_bind (hc_gX6_addWrite h00 (by assumption) ?_) (fun y hy => ?_)  | refine f_bindF (by assumption) ?_ (fun j hj => ?_) | refine f_bindZ (by assumption) (fun j hj hz => ?_) | refine f_some ?_ | assumption | exact okl (by assumption) | exact okw (by assumption) (by assumption) (by assumption) (by decide) | exact h00 | refine Iv_u (by assumption) ?_ | refine Iv_cp (by assumption) ?_ | refine Iv_r ?_ ?_ ?_ | refine Iv_new (by assumption) (by assumption) (by assumption) | refine Iv_th (by assumption) | refine Iv_u ?_ ?_ | refine Iv_cp ?_ ?_ | apply And.intro))
set_option maxRecDepth 100000 in
set_option maxHeartbeats 4000000 in
theorem hc_gX2_writeRecord (h00 : W 0) {n : Nat} {r0 : Nat} {r1 : Nat} {r2 : Nat} {M : ao_M} {ρ : ao_H} (hI : Iv W M0 ρ0 M ρ) (h_r0 : W r0) (h_r1 : W r1) (h_r2 : W r2) : ∀ z, gX2_writeRecord n r0 r1 r2 M ρ = some z → Iv W M0 ρ0 z ρ := by
  unfold gX2_writeRecord
  exact hc_fX2_writeRecord h00 _ _ _ _ _ _ _ _ hI (by first | assumption | exact h00 | exact fun h => absurd h (by decide)) (by first | assumption | exact h00 | exact fun h => absurd h (by decide)) (by first | assumption | exact h00 | exact fun h => absurd h (by decide))
set_option maxRecDepth 100000 in
set_option maxHeartbeats 4000000 in
theorem hc_fX2_finish (h00 : W 0) : ∀ (n : Nat) (pc : Nat) (r0 : Nat) (r1 : Nat) (r2 : Nat) (x3 : Int32) (M : ao_M) (ρ : ao_H), Iv W M0 ρ0 M ρ → W r0 → W r1 → W r2 → ∀ z, fX2_finish n pc r0 r1 r2 x3 M ρ = some z → Iv W M0 ρ0 z.1 z.2 := by
  intro n
  induction n with
  | zero => intros; exact absurd (by assumption) (by simp [fX2_finish.eq_1])
  | succ n ih =>
    intro pc r0 r1 r2 x3 M ρ hI h_r0 h_r1 h_r2
    rw [fX2_finish.eq_2]
    repeat' (with_reducible (first | exact f_none | refine f_ite (fun hc => ?_) (fun hc => ?_) | refine f_letM (Iv_u (by assumption) ?_) (fun M' hM' => ?_) | refine f_letI (fun v => ?_) | refine f_cs (fun x => ?_) (fun E => ?_) | refine f_letM (Iv_cp (by assumption) ?_) (fun M' hM' => ?_) | refine f_letM (by assumption) (fun M' hM' => ?_) | refine ih _ _ _ _ _ _ _ (by assumption) ?_ ?_ ?_ | refine ih _ _ _ _ _ _ _ ?_ ?_ ?_ ?_ | refine f_bind (ih _ _ _ _ _ _ _ (by assumption) ?_ ?_ ?_) (fun y hy => ?_) | refine f_bind2 (hc_gX7_level h00 (by assumption) ?_) (fun y hy1 hy2 => ?_) | refine f_bind (hc_gX2_writesAtOnce h00 (by assumption) ?_) (fun y hy => ?_) | refine f_bind (hc_gX5_release h00 (by assumption) ?_) (fun y hy => ?_) | refine f_bind (hc_gX3_wrote h00 (by assumption) ?_) (fun y hy => ?_) | refine f_bind (hc_gX5_change h00 (by assumption) ?_) (fun y hy => ?_) | refine f_bind (hc_gX2_writeRecord h00 (by assumption) ?_ ?_ ?_) (fun y hy => ?_) | refine f_bind (hc_gX8_add h00 (by assumption) ?_) (fun y hy => ?_)  | refine f_bindF (by assumption) ?_ (fun j hj => ?_) | refine f_bindZ (by assumption) (fun j hj hz => ?_) | refine f_some ?_ | assumption | exact okl (by assumption) | exact okw (by assumption) (by assumption) (by assumption) (by decide) | exact h00 | refine Iv_u (by assumption) ?_ | refine Iv_cp (by assumption) ?_ | refine Iv_r ?_ ?_ ?_ | refine Iv_new (by assumption) (by assumption) (by assumption) | refine Iv_th (by assumption) | refine Iv_u ?_ ?_ | refine Iv_cp ?_ ?_ | apply And.intro))
set_option maxRecDepth 100000 in
set_option maxHeartbeats 4000000 in
theorem hc_gX2_finish (h00 : W 0) {n : Nat} {r0 : Nat} {r1 : Nat} {M : ao_M} {ρ : ao_H} (hI : Iv W M0 ρ0 M ρ) (h_r0 : W r0) (h_r1 : W r1) : ∀ z, gX2_finish n r0 r1 M ρ = some z → Iv W M0 ρ0 z.1 z.2 := by
  unfold gX2_finish
  exact hc_fX2_finish h00 _ _ _ _ _ _ _ _ hI (by first | assumption | exact h00 | exact fun h => absurd h (by decide)) (by first | assumption | exact h00 | exact fun h => absurd h (by decide)) (by first | assumption | exact h00 | exact fun h => absurd h (by decide))
set_option maxRecDepth 100000 in
set_option maxHeartbeats 4000000 in
theorem hc_fX2_closeLevel (h00 : W 0) : ∀ (n : Nat) (pc : Nat) (r0 : Nat) (r1 : Nat) (x2 : Int32) (s0 : Int32) (M : ao_M) (ρ : ao_H), Iv W M0 ρ0 M ρ → W r0 → W r1 → ∀ z, fX2_closeLevel n pc r0 r1 x2 s0 M ρ = some z → Iv W M0 ρ0 z.2.1 z.2.2 := by
  intro n
  induction n with
  | zero => intros; exact absurd (by assumption) (by simp [fX2_closeLevel.eq_1])
  | succ n ih =>
    intro pc r0 r1 x2 s0 M ρ hI h_r0 h_r1
    rw [fX2_closeLevel.eq_2]
    repeat' (with_reducible (first | exact f_none | refine f_ite (fun hc => ?_) (fun hc => ?_) | refine f_letM (Iv_u (by assumption) ?_) (fun M' hM' => ?_) | refine f_letI (fun v => ?_) | refine f_cs (fun x => ?_) (fun E => ?_) | refine f_letM (Iv_cp (by assumption) ?_) (fun M' hM' => ?_) | refine f_letM (by assumption) (fun M' hM' => ?_) | refine ih _ _ _ _ _ _ _ (by assumption) ?_ ?_ | refine ih _ _ _ _ _ _ _ ?_ ?_ ?_ | refine f_bind (ih _ _ _ _ _ _ _ (by assumption) ?_ ?_) (fun y hy => ?_) | refine f_bind2 (hc_gX7_innermost h00 (by assumption) ?_) (fun y hy1 hy2 => ?_) | refine f_bind (hc_gX1_secondAt h00 (by assumption) ?_) (fun y hy => ?_) | refine f_bind (hc_gX2_mayEnd h00 (by assumption) ?_ ?_) (fun y hy => ?_) | refine f_bind (hc_gX2_joinAround h00 (by assumption) ?_ ?_) (fun y hy => ?_) | refine f_bind (hc_gX2_finish h00 (by assumption) ?_ ?_) (fun y hy => ?_)  | refine f_bindF (by assumption) ?_ (fun j hj => ?_) | refine f_bindZ (by assumption) (fun j hj hz => ?_) | refine f_some ?_ | assumption | exact okl (by assumption) | exact okw (by assumption) (by assumption) (by assumption) (by decide) | exact h00 | refine Iv_u (by assumption) ?_ | refine Iv_cp (by assumption) ?_ | refine Iv_r ?_ ?_ ?_ | refine Iv_new (by assumption) (by assumption) (by assumption) | refine Iv_th (by assumption) | refine Iv_u ?_ ?_ | refine Iv_cp ?_ ?_ | apply And.intro))
set_option maxRecDepth 100000 in
set_option maxHeartbeats 4000000 in
theorem hc_gX2_closeLevel (h00 : W 0) {n : Nat} {r0 : Nat} {r1 : Nat} {M : ao_M} {ρ : ao_H} (hI : Iv W M0 ρ0 M ρ) (h_r0 : W r0) (h_r1 : W r1) : ∀ z, gX2_closeLevel n r0 r1 M ρ = some z → Iv W M0 ρ0 z.2.1 z.2.2 := by
  unfold gX2_closeLevel
  exact hc_fX2_closeLevel h00 _ _ _ _ _ _ _ _ hI (by first | assumption | exact h00 | exact fun h => absurd h (by decide)) (by first | assumption | exact h00 | exact fun h => absurd h (by decide))
set_option maxRecDepth 100000 in
set_option maxHeartbeats 4000000 in
theorem hc_gX1_firstAt (h00 : W 0) {r0 : Nat} {x1 : Int32} {M : ao_M} {ρ : ao_H} (hI : Iv W M0 ρ0 M ρ) (h_r0 : W r0) : ∀ z, gX1_firstAt r0 x1 M ρ = some z → Iv W M0 ρ0 z.2 ρ := by
  unfold gX1_firstAt
  repeat' (with_reducible (first | exact f_none | refine f_ite (fun hc => ?_) (fun hc => ?_) | refine f_letM (Iv_u (by assumption) ?_) (fun M' hM' => ?_) | refine f_letI (fun v => ?_) | refine f_cs (fun x => ?_) (fun E => ?_) | refine f_letM (Iv_cp (by assumption) ?_) (fun M' hM' => ?_) | refine f_letM (by assumption) (fun M' hM' => ?_)  | refine f_bindF (by assumption) ?_ (fun j hj => ?_) | refine f_bindZ (by assumption) (fun j hj hz => ?_) | refine f_some ?_ | assumption | exact okl (by assumption) | exact okw (by assumption) (by assumption) (by assumption) (by decide) | exact h00 | refine Iv_u (by assumption) ?_ | refine Iv_cp (by assumption) ?_ | refine Iv_r ?_ ?_ ?_ | refine Iv_new (by assumption) (by assumption) (by assumption) | refine Iv_th (by assumption) | refine Iv_u ?_ ?_ | refine Iv_cp ?_ ?_ | apply And.intro))
set_option maxRecDepth 100000 in
set_option maxHeartbeats 4000000 in
theorem hc_fX7_levelWithOr (h00 : W 0) : ∀ (n : Nat) (pc : Nat) (r0 : Nat) (x1 : Int32) (M : ao_M) (ρ : ao_H), Iv W M0 ρ0 M ρ → W r0 → ∀ z, fX7_levelWithOr n pc r0 x1 M ρ = some z → Iv W M0 ρ0 z.2 ρ := by
  intro n
  induction n with
  | zero => intros; exact absurd (by assumption) (by simp [fX7_levelWithOr.eq_1])
  | succ n ih =>
    intro pc r0 x1 M ρ hI h_r0
    rw [fX7_levelWithOr.eq_2]
    repeat' (with_reducible (first | exact f_none | refine f_ite (fun hc => ?_) (fun hc => ?_) | refine f_letM (Iv_u (by assumption) ?_) (fun M' hM' => ?_) | refine f_letI (fun v => ?_) | refine f_cs (fun x => ?_) (fun E => ?_) | refine f_letM (Iv_cp (by assumption) ?_) (fun M' hM' => ?_) | refine f_letM (by assumption) (fun M' hM' => ?_) | refine ih _ _ _ _ _ (by assumption) ?_ | refine ih _ _ _ _ _ ?_ ?_ | refine f_bind (ih _ _ _ _ _ (by assumption) ?_) (fun y hy => ?_) | refine f_bind2 (hc_gX7_level h00 (by assumption) ?_) (fun y hy1 hy2 => ?_) | refine f_bind (hc_gX1_firstAt h00 (by assumption) ?_) (fun y hy => ?_)  | refine f_bindF (by assumption) ?_ (fun j hj => ?_) | refine f_bindZ (by assumption) (fun j hj hz => ?_) | refine f_some ?_ | assumption | exact okl (by assumption) | exact okw (by assumption) (by assumption) (by assumption) (by decide) | exact h00 | refine Iv_u (by assumption) ?_ | refine Iv_cp (by assumption) ?_ | refine Iv_r ?_ ?_ ?_ | refine Iv_new (by assumption) (by assumption) (by assumption) | refine Iv_th (by assumption) | refine Iv_u ?_ ?_ | refine Iv_cp ?_ ?_ | apply And.intro))
set_option maxRecDepth 100000 in
set_option maxHeartbeats 4000000 in
theorem hc_gX7_levelWithOr (h00 : W 0) {n : Nat} {r0 : Nat} {M : ao_M} {ρ : ao_H} (hI : Iv W M0 ρ0 M ρ) (h_r0 : W r0) : ∀ z, gX7_levelWithOr n r0 M ρ = some z → Iv W M0 ρ0 z.2 ρ := by
  unfold gX7_levelWithOr
  exact hc_fX7_levelWithOr h00 _ _ _ _ _ _ hI (by first | assumption | exact h00 | exact fun h => absurd h (by decide))
set_option maxRecDepth 100000 in
set_option maxHeartbeats 4000000 in
theorem hc_fX2_foldReads (h00 : W 0) : ∀ (n : Nat) (pc : Nat) (r0 : Nat) (x1 : Int32) (x2 : Int32) (M : ao_M) (ρ : ao_H), Iv W M0 ρ0 M ρ → W r0 → ∀ z, fX2_foldReads n pc r0 x1 x2 M ρ = some z → Iv W M0 ρ0 z ρ := by
  intro n
  induction n with
  | zero => intros; exact absurd (by assumption) (by simp [fX2_foldReads.eq_1])
  | succ n ih =>
    intro pc r0 x1 x2 M ρ hI h_r0
    rw [fX2_foldReads.eq_2]
    repeat' (with_reducible (first | exact f_none | refine f_ite (fun hc => ?_) (fun hc => ?_) | refine f_letM (Iv_u (by assumption) ?_) (fun M' hM' => ?_) | refine f_letI (fun v => ?_) | refine f_cs (fun x => ?_) (fun E => ?_) | refine f_letM (Iv_cp (by assumption) ?_) (fun M' hM' => ?_) | refine f_letM (by assumption) (fun M' hM' => ?_) | refine ih _ _ _ _ _ _ (by assumption) ?_ | refine ih _ _ _ _ _ _ ?_ ?_ | refine f_bind (ih _ _ _ _ _ _ (by assumption) ?_) (fun y hy => ?_) | refine f_bind2 (hc_gX7_level h00 (by assumption) ?_) (fun y hy1 hy2 => ?_) | refine f_bind (hc_gX3_takeReadsOf h00 (by assumption) ?_ ?_) (fun y hy => ?_)  | refine f_bindF (by assumption) ?_ (fun j hj => ?_) | refine f_bindZ (by assumption) (fun j hj hz => ?_) | refine f_some ?_ | assumption | exact okl (by assumption) | exact okw (by assumption) (by assumption) (by assumption) (by decide) | exact h00 | refine Iv_u (by assumption) ?_ | refine Iv_cp (by assumption) ?_ | refine Iv_r ?_ ?_ ?_ | refine Iv_new (by assumption) (by assumption) (by assumption) | refine Iv_th (by assumption) | refine Iv_u ?_ ?_ | refine Iv_cp ?_ ?_ | apply And.intro))
set_option maxRecDepth 100000 in
set_option maxHeartbeats 4000000 in
theorem hc_gX2_foldReads (h00 : W 0) {n : Nat} {r0 : Nat} {x1 : Int32} {M : ao_M} {ρ : ao_H} (hI : Iv W M0 ρ0 M ρ) (h_r0 : W r0) : ∀ z, gX2_foldReads n r0 x1 M ρ = some z → Iv W M0 ρ0 z ρ := by
  unfold gX2_foldReads
  exact hc_fX2_foldReads h00 _ _ _ _ _ _ _ hI (by first | assumption | exact h00 | exact fun h => absurd h (by decide))
set_option maxRecDepth 100000 in
set_option maxHeartbeats 4000000 in
theorem hc_fX2_fallAsleep (h00 : W 0) : ∀ (n : Nat) (pc : Nat) (r0 : Nat) (r1 : Nat) (M : ao_M) (ρ : ao_H), Iv W M0 ρ0 M ρ → W r0 → W r1 → ∀ z, fX2_fallAsleep n pc r0 r1 M ρ = some z → Iv W M0 ρ0 z.2.1 z.2.2 := by
  intro n
  induction n with
  | zero => intros; exact absurd (by assumption) (by simp [fX2_fallAsleep.eq_1])
  | succ n ih =>
    intro pc r0 r1 M ρ hI h_r0 h_r1
    rw [fX2_fallAsleep.eq_2]
    repeat' (with_reducible (first | exact f_none | refine f_ite (fun hc => ?_) (fun hc => ?_) | refine f_letM (Iv_u (by assumption) ?_) (fun M' hM' => ?_) | refine f_letI (fun v => ?_) | refine f_cs (fun x => ?_) (fun E => ?_) | refine f_letM (Iv_cp (by assumption) ?_) (fun M' hM' => ?_) | refine f_letM (by assumption) (fun M' hM' => ?_) | refine ih _ _ _ _ _ (by assumption) ?_ ?_ | refine ih _ _ _ _ _ ?_ ?_ ?_ | refine f_bind (ih _ _ _ _ _ (by assumption) ?_ ?_) (fun y hy => ?_) | refine f_bind (hc_gX2_foldReads h00 (by assumption) ?_) (fun y hy => ?_) | refine f_bind (hc_gX2_takeBack h00 (by assumption) ?_ ?_) (fun y hy => ?_) | refine f_bind (hc_gX5_release h00 (by assumption) ?_) (fun y hy => ?_)  | refine f_bindF (by assumption) ?_ (fun j hj => ?_) | refine f_bindZ (by assumption) (fun j hj hz => ?_) | refine f_some ?_ | assumption | exact okl (by assumption) | exact okw (by assumption) (by assumption) (by assumption) (by decide) | exact h00 | refine Iv_u (by assumption) ?_ | refine Iv_cp (by assumption) ?_ | refine Iv_r ?_ ?_ ?_ | refine Iv_new (by assumption) (by assumption) (by assumption) | refine Iv_th (by assumption) | refine Iv_u ?_ ?_ | refine Iv_cp ?_ ?_ | apply And.intro))
set_option maxRecDepth 100000 in
set_option maxHeartbeats 4000000 in
theorem hc_gX2_fallAsleep (h00 : W 0) {n : Nat} {r0 : Nat} {r1 : Nat} {M : ao_M} {ρ : ao_H} (hI : Iv W M0 ρ0 M ρ) (h_r0 : W r0) (h_r1 : W r1) : ∀ z, gX2_fallAsleep n r0 r1 M ρ = some z → Iv W M0 ρ0 z.2.1 z.2.2 := by
  unfold gX2_fallAsleep
  exact hc_fX2_fallAsleep h00 _ _ _ _ _ _ hI (by first | assumption | exact h00 | exact fun h => absurd h (by decide)) (by first | assumption | exact h00 | exact fun h => absurd h (by decide))
set_option maxRecDepth 100000 in
set_option maxHeartbeats 4000000 in
theorem hc_fX2_retry (h00 : W 0) : ∀ (n : Nat) (pc : Nat) (r0 : Nat) (r1 : Nat) (x2 : Int32) (s0 : Int32) (q1 : Nat) (M : ao_M) (ρ : ao_H), Iv W M0 ρ0 M ρ → W r0 → W r1 → W q1 → ∀ z, fX2_retry n pc r0 r1 x2 s0 q1 M ρ = some z → Iv W M0 ρ0 z.2.1 z.2.2 := by
  intro n
  induction n with
  | zero => intros; exact absurd (by assumption) (by simp [fX2_retry.eq_1])
  | succ n ih =>
    intro pc r0 r1 x2 s0 q1 M ρ hI h_r0 h_r1 h_q1
    rw [fX2_retry.eq_2]
    repeat' (with_reducible (first | exact f_none | refine f_ite (fun hc => ?_) (fun hc => ?_) | refine f_letM (Iv_u (by assumption) ?_) (fun M' hM' => ?_) | refine f_letI (fun v => ?_) | refine f_cs (fun x => ?_) (fun E => ?_) | refine f_letM (Iv_cp (by assumption) ?_) (fun M' hM' => ?_) | refine f_letM (by assumption) (fun M' hM' => ?_) | refine ih _ _ _ _ _ _ _ _ (by assumption) ?_ ?_ ?_ | refine ih _ _ _ _ _ _ _ _ ?_ ?_ ?_ ?_ | refine f_bind (ih _ _ _ _ _ _ _ _ (by assumption) ?_ ?_ ?_) (fun y hy => ?_) | refine f_bind (hc_gX7_levelWithOr h00 (by assumption) ?_) (fun y hy => ?_) | refine f_bind (hc_gX2_fallAsleep h00 (by assumption) ?_ ?_) (fun y hy => ?_) | refine f_bind (hc_gX2_foldReads h00 (by assumption) ?_) (fun y hy => ?_) | refine f_bind (hc_gX2_takeBack h00 (by assumption) ?_ ?_) (fun y hy => ?_) | refine f_bind2 (hc_gX7_level h00 (by assumption) ?_) (fun y hy1 hy2 => ?_) | refine f_bind (hc_gX1_firstAt h00 (by assumption) ?_) (fun y hy => ?_)  | refine f_bindF (by assumption) ?_ (fun j hj => ?_) | refine f_bindZ (by assumption) (fun j hj hz => ?_) | refine f_some ?_ | assumption | exact okl (by assumption) | exact okw (by assumption) (by assumption) (by assumption) (by decide) | exact h00 | refine Iv_u (by assumption) ?_ | refine Iv_cp (by assumption) ?_ | refine Iv_r ?_ ?_ ?_ | refine Iv_new (by assumption) (by assumption) (by assumption) | refine Iv_th (by assumption) | refine Iv_u ?_ ?_ | refine Iv_cp ?_ ?_ | apply And.intro))
set_option maxRecDepth 100000 in
set_option maxHeartbeats 4000000 in
theorem hc_gX2_retry (h00 : W 0) {n : Nat} {r0 : Nat} {r1 : Nat} {M : ao_M} {ρ : ao_H} (hI : Iv W M0 ρ0 M ρ) (h_r0 : W r0) (h_r1 : W r1) : ∀ z, gX2_retry n r0 r1 M ρ = some z → Iv W M0 ρ0 z.2.1 z.2.2 := by
  unfold gX2_retry
  exact hc_fX2_retry h00 _ _ _ _ _ _ _ _ _ hI (by first | assumption | exact h00 | exact fun h => absurd h (by decide)) (by first | assumption | exact h00 | exact fun h => absurd h (by decide)) (by first | assumption | exact h00 | exact fun h => absurd h (by decide))
set_option maxRecDepth 100000 in
set_option maxHeartbeats 4000000 in
theorem hc_fX2_leaveFrom (h00 : W 0) : ∀ (n : Nat) (pc : Nat) (r0 : Nat) (r1 : Nat) (x2 : Int32) (M : ao_M) (ρ : ao_H), Iv W M0 ρ0 M ρ → W r0 → W r1 → ∀ z, fX2_leaveFrom n pc r0 r1 x2 M ρ = some z → Iv W M0 ρ0 z.1 z.2 := by
  intro n
  induction n with
  | zero => intros; exact absurd (by assumption) (by simp [fX2_leaveFrom.eq_1])
  | succ n ih =>
    intro pc r0 r1 x2 M ρ hI h_r0 h_r1
    rw [fX2_leaveFrom.eq_2]
    repeat' (with_reducible (first | exact f_none | refine f_ite (fun hc => ?_) (fun hc => ?_) | refine f_letM (Iv_u (by assumption) ?_) (fun M' hM' => ?_) | refine f_letI (fun v => ?_) | refine f_cs (fun x => ?_) (fun E => ?_) | refine f_letM (Iv_cp (by assumption) ?_) (fun M' hM' => ?_) | refine f_letM (by assumption) (fun M' hM' => ?_) | refine ih _ _ _ _ _ _ (by assumption) ?_ ?_ | refine ih _ _ _ _ _ _ ?_ ?_ ?_ | refine f_bind (ih _ _ _ _ _ _ (by assumption) ?_ ?_) (fun y hy => ?_) | refine f_bind (hc_gX2_foldReads h00 (by assumption) ?_) (fun y hy => ?_) | refine f_bind (hc_gX2_takeBack h00 (by assumption) ?_ ?_) (fun y hy => ?_) | refine f_bind (hc_gX5_release h00 (by assumption) ?_) (fun y hy => ?_)  | refine f_bindF (by assumption) ?_ (fun j hj => ?_) | refine f_bindZ (by assumption) (fun j hj hz => ?_) | refine f_some ?_ | assumption | exact okl (by assumption) | exact okw (by assumption) (by assumption) (by assumption) (by decide) | exact h00 | refine Iv_u (by assumption) ?_ | refine Iv_cp (by assumption) ?_ | refine Iv_r ?_ ?_ ?_ | refine Iv_new (by assumption) (by assumption) (by assumption) | refine Iv_th (by assumption) | refine Iv_u ?_ ?_ | refine Iv_cp ?_ ?_ | apply And.intro))
set_option maxRecDepth 100000 in
set_option maxHeartbeats 4000000 in
theorem hc_gX2_leaveFrom (h00 : W 0) {n : Nat} {r0 : Nat} {r1 : Nat} {x2 : Int32} {M : ao_M} {ρ : ao_H} (hI : Iv W M0 ρ0 M ρ) (h_r0 : W r0) (h_r1 : W r1) : ∀ z, gX2_leaveFrom n r0 r1 x2 M ρ = some z → Iv W M0 ρ0 z.1 z.2 := by
  unfold gX2_leaveFrom
  exact hc_fX2_leaveFrom h00 _ _ _ _ _ _ _ hI (by first | assumption | exact h00 | exact fun h => absurd h (by decide)) (by first | assumption | exact h00 | exact fun h => absurd h (by decide))
set_option maxRecDepth 100000 in
set_option maxHeartbeats 4000000 in
theorem hc_fX2_quit (h00 : W 0) : ∀ (n : Nat) (pc : Nat) (r0 : Nat) (r1 : Nat) (x2 : Int32) (M : ao_M) (ρ : ao_H), Iv W M0 ρ0 M ρ → W r0 → W r1 → ∀ z, fX2_quit n pc r0 r1 x2 M ρ = some z → Iv W M0 ρ0 z.2.1 z.2.2 := by
  intro n
  induction n with
  | zero => intros; exact absurd (by assumption) (by simp [fX2_quit.eq_1])
  | succ n ih =>
    intro pc r0 r1 x2 M ρ hI h_r0 h_r1
    rw [fX2_quit.eq_2]
    repeat' (with_reducible (first | exact f_none | refine f_ite (fun hc => ?_) (fun hc => ?_) | refine f_letM (Iv_u (by assumption) ?_) (fun M' hM' => ?_) | refine f_letI (fun v => ?_) | refine f_cs (fun x => ?_) (fun E => ?_) | refine f_letM (Iv_cp (by assumption) ?_) (fun M' hM' => ?_) | refine f_letM (by assumption) (fun M' hM' => ?_) | refine ih _ _ _ _ _ _ (by assumption) ?_ ?_ | refine ih _ _ _ _ _ _ ?_ ?_ ?_ | refine f_bind (ih _ _ _ _ _ _ (by assumption) ?_ ?_) (fun y hy => ?_) | refine f_bind2 (hc_gX7_innermost h00 (by assumption) ?_) (fun y hy1 hy2 => ?_) | refine f_bind (hc_gX1_secondAt h00 (by assumption) ?_) (fun y hy => ?_) | refine f_bind (hc_gX2_leaveFrom h00 (by assumption) ?_ ?_) (fun y hy => ?_)  | refine f_bindF (by assumption) ?_ (fun j hj => ?_) | refine f_bindZ (by assumption) (fun j hj hz => ?_) | refine f_some ?_ | assumption | exact okl (by assumption) | exact okw (by assumption) (by assumption) (by assumption) (by decide) | exact h00 | refine Iv_u (by assumption) ?_ | refine Iv_cp (by assumption) ?_ | refine Iv_r ?_ ?_ ?_ | refine Iv_new (by assumption) (by assumption) (by assumption) | refine Iv_th (by assumption) | refine Iv_u ?_ ?_ | refine Iv_cp ?_ ?_ | apply And.intro))
set_option maxRecDepth 100000 in
set_option maxHeartbeats 4000000 in
theorem hc_gX2_quit (h00 : W 0) {n : Nat} {r0 : Nat} {r1 : Nat} {M : ao_M} {ρ : ao_H} (hI : Iv W M0 ρ0 M ρ) (h_r0 : W r0) (h_r1 : W r1) : ∀ z, gX2_quit n r0 r1 M ρ = some z → Iv W M0 ρ0 z.2.1 z.2.2 := by
  unfold gX2_quit
  exact hc_fX2_quit h00 _ _ _ _ _ _ _ hI (by first | assumption | exact h00 | exact fun h => absurd h (by decide)) (by first | assumption | exact h00 | exact fun h => absurd h (by decide))
set_option maxRecDepth 100000 in
set_option maxHeartbeats 4000000 in
theorem hc_gX7_tryAtOf (h00 : W 0) {r0 : Nat} {x1 : Int32} {M : ao_M} {ρ : ao_H} (hI : Iv W M0 ρ0 M ρ) (h_r0 : W r0) : ∀ z, gX7_tryAtOf r0 x1 M ρ = some z → Iv W M0 ρ0 z.2 ρ := by
  unfold gX7_tryAtOf
  repeat' (with_reducible (first | exact f_none | refine f_ite (fun hc => ?_) (fun hc => ?_) | refine f_letM (Iv_u (by assumption) ?_) (fun M' hM' => ?_) | refine f_letI (fun v => ?_) | refine f_cs (fun x => ?_) (fun E => ?_) | refine f_letM (Iv_cp (by assumption) ?_) (fun M' hM' => ?_) | refine f_letM (by assumption) (fun M' hM' => ?_)  | refine f_bindF (by assumption) ?_ (fun j hj => ?_) | refine f_bindZ (by assumption) (fun j hj hz => ?_) | refine f_some ?_ | assumption | exact okl (by assumption) | exact okw (by assumption) (by assumption) (by assumption) (by decide) | exact h00 | refine Iv_u (by assumption) ?_ | refine Iv_cp (by assumption) ?_ | refine Iv_r ?_ ?_ ?_ | refine Iv_new (by assumption) (by assumption) (by assumption) | refine Iv_th (by assumption) | refine Iv_u ?_ ?_ | refine Iv_cp ?_ ?_ | apply And.intro))
set_option maxRecDepth 100000 in
set_option maxHeartbeats 4000000 in
theorem hc_gX7_tryDepthOf (h00 : W 0) {r0 : Nat} {x1 : Int32} {M : ao_M} {ρ : ao_H} (hI : Iv W M0 ρ0 M ρ) (h_r0 : W r0) : ∀ z, gX7_tryDepthOf r0 x1 M ρ = some z → Iv W M0 ρ0 z.2 ρ := by
  unfold gX7_tryDepthOf
  repeat' (with_reducible (first | exact f_none | refine f_ite (fun hc => ?_) (fun hc => ?_) | refine f_letM (Iv_u (by assumption) ?_) (fun M' hM' => ?_) | refine f_letI (fun v => ?_) | refine f_cs (fun x => ?_) (fun E => ?_) | refine f_letM (Iv_cp (by assumption) ?_) (fun M' hM' => ?_) | refine f_letM (by assumption) (fun M' hM' => ?_)  | refine f_bindF (by assumption) ?_ (fun j hj => ?_) | refine f_bindZ (by assumption) (fun j hj hz => ?_) | refine f_some ?_ | assumption | exact okl (by assumption) | exact okw (by assumption) (by assumption) (by assumption) (by decide) | exact h00 | refine Iv_u (by assumption) ?_ | refine Iv_cp (by assumption) ?_ | refine Iv_r ?_ ?_ ?_ | refine Iv_new (by assumption) (by assumption) (by assumption) | refine Iv_th (by assumption) | refine Iv_u ?_ ?_ | refine Iv_cp ?_ ?_ | apply And.intro))
set_option maxRecDepth 100000 in
set_option maxHeartbeats 4000000 in
theorem hc_gX2_setRegister (h00 : W 0) {r0 : Nat} {x1 : Int32} {x2 : Int32} {M : ao_M} {ρ : ao_H} (hI : Iv W M0 ρ0 M ρ) (h_r0 : W r0) : ∀ z, gX2_setRegister r0 x1 x2 M ρ = some z → Iv W M0 ρ0 z ρ := by
  unfold gX2_setRegister
  repeat' (with_reducible (first | exact f_none | refine f_ite (fun hc => ?_) (fun hc => ?_) | refine f_letM (Iv_u (by assumption) ?_) (fun M' hM' => ?_) | refine f_letI (fun v => ?_) | refine f_cs (fun x => ?_) (fun E => ?_) | refine f_letM (Iv_cp (by assumption) ?_) (fun M' hM' => ?_) | refine f_letM (by assumption) (fun M' hM' => ?_)  | refine f_bindF (by assumption) ?_ (fun j hj => ?_) | refine f_bindZ (by assumption) (fun j hj hz => ?_) | refine f_some ?_ | assumption | exact okl (by assumption) | exact okw (by assumption) (by assumption) (by assumption) (by decide) | exact h00 | refine Iv_u (by assumption) ?_ | refine Iv_cp (by assumption) ?_ | refine Iv_r ?_ ?_ ?_ | refine Iv_new (by assumption) (by assumption) (by assumption) | refine Iv_th (by assumption) | refine Iv_u ?_ ?_ | refine Iv_cp ?_ ?_ | apply And.intro))
set_option maxRecDepth 100000 in
set_option maxHeartbeats 4000000 in
theorem hc_fX2_fail (h00 : W 0) : ∀ (n : Nat) (pc : Nat) (r0 : Nat) (r1 : Nat) (x2 : Int32) (x3 : Int32) (x4 : Int32) (M : ao_M) (ρ : ao_H), Iv W M0 ρ0 M ρ → W r0 → W r1 → ∀ z, fX2_fail n pc r0 r1 x2 x3 x4 M ρ = some z → Iv W M0 ρ0 z.2.1 z.2.2 := by
  intro n
  induction n with
  | zero => intros; exact absurd (by assumption) (by simp [fX2_fail.eq_1])
  | succ n ih =>
    intro pc r0 r1 x2 x3 x4 M ρ hI h_r0 h_r1
    rw [fX2_fail.eq_2]
    repeat' (with_reducible (first | exact f_none | refine f_ite (fun hc => ?_) (fun hc => ?_) | refine f_letM (Iv_u (by assumption) ?_) (fun M' hM' => ?_) | refine f_letI (fun v => ?_) | refine f_cs (fun x => ?_) (fun E => ?_) | refine f_letM (Iv_cp (by assumption) ?_) (fun M' hM' => ?_) | refine f_letM (by assumption) (fun M' hM' => ?_) | refine ih _ _ _ _ _ _ _ _ (by assumption) ?_ ?_ | refine ih _ _ _ _ _ _ _ _ ?_ ?_ ?_ | refine f_bind (ih _ _ _ _ _ _ _ _ (by assumption) ?_ ?_) (fun y hy => ?_) | refine f_bind (hc_gX7_tryAtOf h00 (by assumption) ?_) (fun y hy => ?_) | refine f_bind (hc_gX7_tryDepthOf h00 (by assumption) ?_) (fun y hy => ?_) | refine f_bind (hc_gX2_leaveFrom h00 (by assumption) ?_ ?_) (fun y hy => ?_) | refine f_bind (hc_gX1_secondAt h00 (by assumption) ?_) (fun y hy => ?_) | refine f_bind (hc_gX2_setRegister h00 (by assumption) ?_) (fun y hy => ?_) | refine f_bind (hc_gX1_firstAt h00 (by assumption) ?_) (fun y hy => ?_)  | refine f_bindF (by assumption) ?_ (fun j hj => ?_) | refine f_bindZ (by assumption) (fun j hj hz => ?_) | refine f_some ?_ | assumption | exact okl (by assumption) | exact okw (by assumption) (by assumption) (by assumption) (by decide) | exact h00 | refine Iv_u (by assumption) ?_ | refine Iv_cp (by assumption) ?_ | refine Iv_r ?_ ?_ ?_ | refine Iv_new (by assumption) (by assumption) (by assumption) | refine Iv_th (by assumption) | refine Iv_u ?_ ?_ | refine Iv_cp ?_ ?_ | apply And.intro))
set_option maxRecDepth 100000 in
set_option maxHeartbeats 4000000 in
theorem hc_gX2_fail (h00 : W 0) {n : Nat} {r0 : Nat} {r1 : Nat} {x2 : Int32} {M : ao_M} {ρ : ao_H} (hI : Iv W M0 ρ0 M ρ) (h_r0 : W r0) (h_r1 : W r1) : ∀ z, gX2_fail n r0 r1 x2 M ρ = some z → Iv W M0 ρ0 z.2.1 z.2.2 := by
  unfold gX2_fail
  exact hc_fX2_fail h00 _ _ _ _ _ _ _ _ _ hI (by first | assumption | exact h00 | exact fun h => absurd h (by decide)) (by first | assumption | exact h00 | exact fun h => absurd h (by decide))
set_option maxRecDepth 100000 in
set_option maxHeartbeats 4000000 in
theorem hc_gX7_enterTry (h00 : W 0) {r0 : Nat} {x1 : Int32} {M : ao_M} {ρ : ao_H} (hI : Iv W M0 ρ0 M ρ) (h_r0 : W r0) : ∀ z, gX7_enterTry r0 x1 M ρ = some z → Iv W M0 ρ0 z ρ := by
  unfold gX7_enterTry
  repeat' (with_reducible (first | exact f_none | refine f_ite (fun hc => ?_) (fun hc => ?_) | refine f_letM (Iv_u (by assumption) ?_) (fun M' hM' => ?_) | refine f_letI (fun v => ?_) | refine f_cs (fun x => ?_) (fun E => ?_) | refine f_letM (Iv_cp (by assumption) ?_) (fun M' hM' => ?_) | refine f_letM (by assumption) (fun M' hM' => ?_)  | refine f_bindF (by assumption) ?_ (fun j hj => ?_) | refine f_bindZ (by assumption) (fun j hj hz => ?_) | refine f_some ?_ | assumption | exact okl (by assumption) | exact okw (by assumption) (by assumption) (by assumption) (by decide) | exact h00 | refine Iv_u (by assumption) ?_ | refine Iv_cp (by assumption) ?_ | refine Iv_r ?_ ?_ ?_ | refine Iv_new (by assumption) (by assumption) (by assumption) | refine Iv_th (by assumption) | refine Iv_u ?_ ?_ | refine Iv_cp ?_ ?_ | apply And.intro))
set_option maxRecDepth 100000 in
set_option maxHeartbeats 4000000 in
theorem hc_gX7_leaveTry (h00 : W 0) {r0 : Nat} {M : ao_M} {ρ : ao_H} (hI : Iv W M0 ρ0 M ρ) (h_r0 : W r0) : ∀ z, gX7_leaveTry r0 M ρ = some z → Iv W M0 ρ0 z ρ := by
  unfold gX7_leaveTry
  repeat' (with_reducible (first | exact f_none | refine f_ite (fun hc => ?_) (fun hc => ?_) | refine f_letM (Iv_u (by assumption) ?_) (fun M' hM' => ?_) | refine f_letI (fun v => ?_) | refine f_cs (fun x => ?_) (fun E => ?_) | refine f_letM (Iv_cp (by assumption) ?_) (fun M' hM' => ?_) | refine f_letM (by assumption) (fun M' hM' => ?_)  | refine f_bindF (by assumption) ?_ (fun j hj => ?_) | refine f_bindZ (by assumption) (fun j hj hz => ?_) | refine f_some ?_ | assumption | exact okl (by assumption) | exact okw (by assumption) (by assumption) (by assumption) (by decide) | exact h00 | refine Iv_u (by assumption) ?_ | refine Iv_cp (by assumption) ?_ | refine Iv_r ?_ ?_ ?_ | refine Iv_new (by assumption) (by assumption) (by assumption) | refine Iv_th (by assumption) | refine Iv_u ?_ ?_ | refine Iv_cp ?_ ?_ | apply And.intro))
set_option maxRecDepth 100000 in
set_option maxHeartbeats 4000000 in
theorem hc_gX2_compute (h00 : W 0) {x0 : Int32} {x1 : Int32} {x2 : Int32} {M : ao_M} {ρ : ao_H} (hI : Iv W M0 ρ0 M ρ)  : ∀ z, gX2_compute x0 x1 x2 M ρ = some z → Iv W M0 ρ0 z.2 ρ := by
  unfold gX2_compute
  repeat' (with_reducible (first | exact f_none | refine f_ite (fun hc => ?_) (fun hc => ?_) | refine f_letM (Iv_u (by assumption) ?_) (fun M' hM' => ?_) | refine f_letI (fun v => ?_) | refine f_cs (fun x => ?_) (fun E => ?_) | refine f_letM (Iv_cp (by assumption) ?_) (fun M' hM' => ?_) | refine f_letM (by assumption) (fun M' hM' => ?_)  | refine f_bindF (by assumption) ?_ (fun j hj => ?_) | refine f_bindZ (by assumption) (fun j hj hz => ?_) | refine f_some ?_ | assumption | exact okl (by assumption) | exact okw (by assumption) (by assumption) (by assumption) (by decide) | exact h00 | refine Iv_u (by assumption) ?_ | refine Iv_cp (by assumption) ?_ | refine Iv_r ?_ ?_ ?_ | refine Iv_new (by assumption) (by assumption) (by assumption) | refine Iv_th (by assumption) | refine Iv_u ?_ ?_ | refine Iv_cp ?_ ?_ | apply And.intro))
set_option maxRecDepth 100000 in
set_option maxHeartbeats 4000000 in
theorem hc_fX2_onTheWay (h00 : W 0) : ∀ (n : Nat) (pc : Nat) (r0 : Nat) (x1 : Int32) (x2 : Int32) (q0 : Nat) (s0 : Int32) (q1 : Nat) (M : ao_M) (ρ : ao_H), Iv W M0 ρ0 M ρ → W r0 → W q0 → W q1 → ∀ z, fX2_onTheWay n pc r0 x1 x2 q0 s0 q1 M ρ = some z → Iv W M0 ρ0 z ρ := by
  intro n
  induction n with
  | zero => intros; exact absurd (by assumption) (by simp [fX2_onTheWay.eq_1])
  | succ n ih =>
    intro pc r0 x1 x2 q0 s0 q1 M ρ hI h_r0 h_q0 h_q1
    rw [fX2_onTheWay.eq_2]
    repeat' (with_reducible (first | exact f_none | refine f_ite (fun hc => ?_) (fun hc => ?_) | refine f_letM (Iv_u (by assumption) ?_) (fun M' hM' => ?_) | refine f_letI (fun v => ?_) | refine f_cs (fun x => ?_) (fun E => ?_) | refine f_letM (Iv_cp (by assumption) ?_) (fun M' hM' => ?_) | refine f_letM (by assumption) (fun M' hM' => ?_) | refine ih _ _ _ _ _ _ _ _ _ (by assumption) ?_ ?_ ?_ | refine ih _ _ _ _ _ _ _ _ _ ?_ ?_ ?_ ?_ | refine f_bind (ih _ _ _ _ _ _ _ _ _ (by assumption) ?_ ?_ ?_) (fun y hy => ?_) | refine f_bind (hc_gX7_push h00 (by assumption) ?_) (fun y hy => ?_) | refine f_bind (hc_gX7_pop h00 (by assumption) ?_) (fun y hy => ?_) | refine f_bind (hc_gX2_setRegister h00 (by assumption) ?_) (fun y hy => ?_) | refine f_bind (hc_gX2_compute h00 (by assumption)) (fun y hy => ?_)  | refine f_bindF (by assumption) ?_ (fun j hj => ?_) | refine f_bindZ (by assumption) (fun j hj hz => ?_) | refine f_some ?_ | assumption | exact okl (by assumption) | exact okw (by assumption) (by assumption) (by assumption) (by decide) | exact h00 | refine Iv_u (by assumption) ?_ | refine Iv_cp (by assumption) ?_ | refine Iv_r ?_ ?_ ?_ | refine Iv_new (by assumption) (by assumption) (by assumption) | refine Iv_th (by assumption) | refine Iv_u ?_ ?_ | refine Iv_cp ?_ ?_ | apply And.intro))
set_option maxRecDepth 100000 in
set_option maxHeartbeats 4000000 in
theorem hc_gX2_onTheWay (h00 : W 0) {n : Nat} {r0 : Nat} {x1 : Int32} {x2 : Int32} {M : ao_M} {ρ : ao_H} (hI : Iv W M0 ρ0 M ρ) (h_r0 : W r0) : ∀ z, gX2_onTheWay n r0 x1 x2 M ρ = some z → Iv W M0 ρ0 z ρ := by
  unfold gX2_onTheWay
  exact hc_fX2_onTheWay h00 _ _ _ _ _ _ _ _ _ _ hI (by first | assumption | exact h00 | exact fun h => absurd h (by decide)) (by first | assumption | exact h00 | exact fun h => absurd h (by decide)) (by first | assumption | exact h00 | exact fun h => absurd h (by decide))
set_option maxRecDepth 100000 in
set_option maxHeartbeats 4000000 in
theorem hc_fX2_step (h00 : W 0) : ∀ (n : Nat) (pc : Nat) (r0 : Nat) (r1 : Nat) (r2 : Nat) (x3 : Int32) (x4 : Int32) (s0 : Int32) (M : ao_M) (ρ : ao_H), Iv W M0 ρ0 M ρ → W r0 → W r1 → W r2 → ∀ z, fX2_step n pc r0 r1 r2 x3 x4 s0 M ρ = some z → Iv W M0 ρ0 z.2.1 z.2.2 := by
  intro n
  induction n with
  | zero => intros; exact absurd (by assumption) (by simp [fX2_step.eq_1])
  | succ n ih =>
    intro pc r0 r1 r2 x3 x4 s0 M ρ hI h_r0 h_r1 h_r2
    rw [fX2_step.eq_2]
    repeat' (with_reducible (first | exact f_none | refine f_ite (fun hc => ?_) (fun hc => ?_) | refine f_letM (Iv_u (by assumption) ?_) (fun M' hM' => ?_) | refine f_letI (fun v => ?_) | refine f_cs (fun x => ?_) (fun E => ?_) | refine f_letM (Iv_cp (by assumption) ?_) (fun M' hM' => ?_) | refine f_letM (by assumption) (fun M' hM' => ?_) | refine ih _ _ _ _ _ _ _ _ _ (by assumption) ?_ ?_ ?_ | refine ih _ _ _ _ _ _ _ _ _ ?_ ?_ ?_ ?_ | refine f_bind (ih _ _ _ _ _ _ _ _ _ (by assumption) ?_ ?_ ?_) (fun y hy => ?_) | refine f_bind (hc_gX2_see h00 (by assumption) ?_ ?_) (fun y hy => ?_) | refine f_bind (hc_gX7_pop h00 (by assumption) ?_) (fun y hy => ?_) | refine f_bind (hc_gX2_write h00 (by assumption) ?_ ?_) (fun y hy => ?_) | refine f_bind (hc_gX2_again h00 (by assumption) ?_) (fun y hy => ?_) | refine f_bind (hc_gX2_say h00 (by assumption) ?_ ?_) (fun y hy => ?_) | refine f_bind (hc_gX2_beginLevel h00 (by assumption) ?_ ?_) (fun y hy => ?_) | refine f_bind (hc_gX2_closeLevel h00 (by assumption) ?_ ?_) (fun y hy => ?_) | refine f_bind (hc_gX2_retry h00 (by assumption) ?_ ?_) (fun y hy => ?_) | refine f_bind (hc_gX2_quit h00 (by assumption) ?_ ?_) (fun y hy => ?_) | refine f_bind (hc_gX2_fail h00 (by assumption) ?_ ?_) (fun y hy => ?_) | refine f_bind (hc_gX7_enterTry h00 (by assumption) ?_) (fun y hy => ?_) | refine f_bind (hc_gX7_leaveTry h00 (by assumption) ?_) (fun y hy => ?_) | refine f_bind (hc_gX2_onTheWay h00 (by assumption) ?_) (fun y hy => ?_)  | refine f_bindF (by assumption) ?_ (fun j hj => ?_) | refine f_bindZ (by assumption) (fun j hj hz => ?_) | refine f_some ?_ | assumption | exact okl (by assumption) | exact okw (by assumption) (by assumption) (by assumption) (by decide) | exact h00 | refine Iv_u (by assumption) ?_ | refine Iv_cp (by assumption) ?_ | refine Iv_r ?_ ?_ ?_ | refine Iv_new (by assumption) (by assumption) (by assumption) | refine Iv_th (by assumption) | refine Iv_u ?_ ?_ | refine Iv_cp ?_ ?_ | apply And.intro))
set_option maxRecDepth 100000 in
set_option maxHeartbeats 4000000 in
theorem hc_gX2_step (h00 : W 0) {n : Nat} {r0 : Nat} {r1 : Nat} {M : ao_M} {ρ : ao_H} (hI : Iv W M0 ρ0 M ρ) (h_r0 : W r0) (h_r1 : W r1) : ∀ z, gX2_step n r0 r1 M ρ = some z → Iv W M0 ρ0 z.2.1 z.2.2 := by
  unfold gX2_step
  exact hc_fX2_step h00 _ _ _ _ _ _ _ _ _ _ hI (by first | assumption | exact h00 | exact fun h => absurd h (by decide)) (by first | assumption | exact h00 | exact fun h => absurd h (by decide)) (by first | assumption | exact h00 | exact fun h => absurd h (by decide))
set_option maxRecDepth 100000 in
set_option maxHeartbeats 4000000 in
theorem hc_fX2_takeTurn (h00 : W 0) : ∀ (n : Nat) (pc : Nat) (r0 : Nat) (r1 : Nat) (x2 : Int32) (s0 : Int32) (M : ao_M) (ρ : ao_H), Iv W M0 ρ0 M ρ → W r0 → W r1 → ∀ z, fX2_takeTurn n pc r0 r1 x2 s0 M ρ = some z → Iv W M0 ρ0 z.2.1 z.2.2 := by
  intro n
  induction n with
  | zero => intros; exact absurd (by assumption) (by simp [fX2_takeTurn.eq_1])
  | succ n ih =>
    intro pc r0 r1 x2 s0 M ρ hI h_r0 h_r1
    rw [fX2_takeTurn.eq_2]
    repeat' (with_reducible (first | exact f_none | refine f_ite (fun hc => ?_) (fun hc => ?_) | refine f_letM (Iv_u (by assumption) ?_) (fun M' hM' => ?_) | refine f_letI (fun v => ?_) | refine f_cs (fun x => ?_) (fun E => ?_) | refine f_letM (Iv_cp (by assumption) ?_) (fun M' hM' => ?_) | refine f_letM (by assumption) (fun M' hM' => ?_) | refine ih _ _ _ _ _ _ _ (by assumption) ?_ ?_ | refine ih _ _ _ _ _ _ _ ?_ ?_ ?_ | refine f_bind (ih _ _ _ _ _ _ _ (by assumption) ?_ ?_) (fun y hy => ?_) | refine f_bind (hc_gX2_stir h00 (by assumption) ?_ ?_) (fun y hy => ?_) | refine f_bind (hc_gX7_isLeft h00 (by assumption) ?_) (fun y hy => ?_) | refine f_bind (hc_gX2_step h00 (by assumption) ?_ ?_) (fun y hy => ?_)  | refine f_bindF (by assumption) ?_ (fun j hj => ?_) | refine f_bindZ (by assumption) (fun j hj hz => ?_) | refine f_some ?_ | assumption | exact okl (by assumption) | exact okw (by assumption) (by assumption) (by assumption) (by decide) | exact h00 | refine Iv_u (by assumption) ?_ | refine Iv_cp (by assumption) ?_ | refine Iv_r ?_ ?_ ?_ | refine Iv_new (by assumption) (by assumption) (by assumption) | refine Iv_th (by assumption) | refine Iv_u ?_ ?_ | refine Iv_cp ?_ ?_ | apply And.intro))
set_option maxRecDepth 100000 in
set_option maxHeartbeats 4000000 in
theorem hc_gX2_takeTurn (h00 : W 0) {n : Nat} {r0 : Nat} {r1 : Nat} {M : ao_M} {ρ : ao_H} (hI : Iv W M0 ρ0 M ρ) (h_r0 : W r0) (h_r1 : W r1) : ∀ z, gX2_takeTurn n r0 r1 M ρ = some z → Iv W M0 ρ0 z.2.1 z.2.2 := by
  unfold gX2_takeTurn
  exact hc_fX2_takeTurn h00 _ _ _ _ _ _ _ _ hI (by first | assumption | exact h00 | exact fun h => absurd h (by decide)) (by first | assumption | exact h00 | exact fun h => absurd h (by decide))
set_option maxRecDepth 100000 in
set_option maxHeartbeats 4000000 in
theorem hc_fX10_turn (h00 : W 0) : ∀ (n : Nat) (pc : Nat) (r0 : Nat) (x1 : Int32) (s0 : Int32) (M : ao_M) (ρ : ao_H), Iv W M0 ρ0 M ρ → W r0 → ∀ z, fX10_turn n pc r0 x1 s0 M ρ = some z → Iv W M0 ρ0 z.2.1 z.2.2 := by
  intro n
  induction n with
  | zero => intros; exact absurd (by assumption) (by simp [fX10_turn.eq_1])
  | succ n ih =>
    intro pc r0 x1 s0 M ρ hI h_r0
    rw [fX10_turn.eq_2]
    repeat' (with_reducible (first | exact f_none | refine f_ite (fun hc => ?_) (fun hc => ?_) | refine f_letM (Iv_u (by assumption) ?_) (fun M' hM' => ?_) | refine f_letI (fun v => ?_) | refine f_cs (fun x => ?_) (fun E => ?_) | refine f_letM (Iv_cp (by assumption) ?_) (fun M' hM' => ?_) | refine f_letM (by assumption) (fun M' hM' => ?_) | refine ih _ _ _ _ _ _ (by assumption) ?_ | refine ih _ _ _ _ _ _ ?_ ?_ | refine f_bind (ih _ _ _ _ _ _ (by assumption) ?_) (fun y hy => ?_) | refine f_bind (hc_gX2_takeTurn h00 (by assumption) ?_ ?_) (fun y hy => ?_)  | refine f_bindF (by assumption) ?_ (fun j hj => ?_) | refine f_bindZ (by assumption) (fun j hj hz => ?_) | refine f_some ?_ | assumption | exact okl (by assumption) | exact okw (by assumption) (by assumption) (by assumption) (by decide) | exact h00 | refine Iv_u (by assumption) ?_ | refine Iv_cp (by assumption) ?_ | refine Iv_r ?_ ?_ ?_ | refine Iv_new (by assumption) (by assumption) (by assumption) | refine Iv_th (by assumption) | refine Iv_u ?_ ?_ | refine Iv_cp ?_ ?_ | apply And.intro))
set_option maxRecDepth 100000 in
set_option maxHeartbeats 4000000 in
theorem hc_gX10_turn (h00 : W 0) {n : Nat} {r0 : Nat} {x1 : Int32} {M : ao_M} {ρ : ao_H} (hI : Iv W M0 ρ0 M ρ) (h_r0 : W r0) : ∀ z, gX10_turn n r0 x1 M ρ = some z → Iv W M0 ρ0 z.2.1 z.2.2 := by
  unfold gX10_turn
  exact hc_fX10_turn h00 _ _ _ _ _ _ _ hI (by first | assumption | exact h00 | exact fun h => absurd h (by decide))
set_option maxRecDepth 100000 in
set_option maxHeartbeats 4000000 in
theorem hc_fL_turn (h00 : W 0) : ∀ (n : Nat) (pc : Nat) (r0 : Nat) (x1 : Int32) (r2 : Nat) (s0 : Int32) (s1 : Int32) (q2 : Nat) (M : ao_M) (ρ : ao_H), Iv W M0 ρ0 M ρ → W r0 → W r2 → W q2 → ∀ z, fL_turn n pc r0 x1 r2 s0 s1 q2 M ρ = some z → Iv W M0 ρ0 z.2.1 z.2.2 := by
  intro n
  induction n with
  | zero => intros; exact absurd (by assumption) (by simp [fL_turn.eq_1])
  | succ n ih =>
    intro pc r0 x1 r2 s0 s1 q2 M ρ hI h_r0 h_r2 h_q2
    rw [fL_turn.eq_2]
    repeat' (with_reducible (first | exact f_none | refine f_ite (fun hc => ?_) (fun hc => ?_) | refine f_letM (Iv_u (by assumption) ?_) (fun M' hM' => ?_) | refine f_letI (fun v => ?_) | refine f_cs (fun x => ?_) (fun E => ?_) | refine f_letM (Iv_cp (by assumption) ?_) (fun M' hM' => ?_) | refine f_letM (by assumption) (fun M' hM' => ?_) | refine ih _ _ _ _ _ _ _ _ _ (by assumption) ?_ ?_ ?_ | refine ih _ _ _ _ _ _ _ _ _ ?_ ?_ ?_ ?_ | refine f_bind (ih _ _ _ _ _ _ _ _ _ (by assumption) ?_ ?_ ?_) (fun y hy => ?_) | refine f_bind (hc_gX10_turn h00 (by assumption) ?_) (fun y hy => ?_)  | refine f_bindF (by assumption) ?_ (fun j hj => ?_) | refine f_bindZ (by assumption) (fun j hj hz => ?_) | refine f_some ?_ | assumption | exact okl (by assumption) | exact okw (by assumption) (by assumption) (by assumption) (by decide) | exact h00 | refine Iv_u (by assumption) ?_ | refine Iv_cp (by assumption) ?_ | refine Iv_r ?_ ?_ ?_ | refine Iv_new (by assumption) (by assumption) (by assumption) | refine Iv_th (by assumption) | refine Iv_u ?_ ?_ | refine Iv_cp ?_ ?_ | apply And.intro))
set_option maxRecDepth 100000 in
set_option maxHeartbeats 4000000 in
theorem hc_gL_turn (h00 : W 0) {n : Nat} {r0 : Nat} {x1 : Int32} {r2 : Nat} {M : ao_M} {ρ : ao_H} (hI : Iv W M0 ρ0 M ρ) (h_r0 : W r0) (h_r2 : W r2) : ∀ z, gL_turn n r0 x1 r2 M ρ = some z → Iv W M0 ρ0 z.2.1 z.2.2 := by
  unfold gL_turn
  exact hc_fL_turn h00 _ _ _ _ _ _ _ _ _ _ hI (by first | assumption | exact h00 | exact fun h => absurd h (by decide)) (by first | assumption | exact h00 | exact fun h => absurd h (by decide)) (by first | assumption | exact h00 | exact fun h => absurd h (by decide))
set_option maxRecDepth 100000 in
set_option maxHeartbeats 4000000 in
theorem hc_fX2_howManyAreLeft (h00 : W 0) : ∀ (n : Nat) (pc : Nat) (r0 : Nat) (x1 : Int32) (x2 : Int32) (M : ao_M) (ρ : ao_H), Iv W M0 ρ0 M ρ → W r0 → ∀ z, fX2_howManyAreLeft n pc r0 x1 x2 M ρ = some z → Iv W M0 ρ0 z.2 ρ := by
  intro n
  induction n with
  | zero => intros; exact absurd (by assumption) (by simp [fX2_howManyAreLeft.eq_1])
  | succ n ih =>
    intro pc r0 x1 x2 M ρ hI h_r0
    rw [fX2_howManyAreLeft.eq_2]
    repeat' (with_reducible (first | exact f_none | refine f_ite (fun hc => ?_) (fun hc => ?_) | refine f_letM (Iv_u (by assumption) ?_) (fun M' hM' => ?_) | refine f_letI (fun v => ?_) | refine f_cs (fun x => ?_) (fun E => ?_) | refine f_letM (Iv_cp (by assumption) ?_) (fun M' hM' => ?_) | refine f_letM (by assumption) (fun M' hM' => ?_) | refine ih _ _ _ _ _ _ (by assumption) ?_ | refine ih _ _ _ _ _ _ ?_ ?_ | refine f_bind (ih _ _ _ _ _ _ (by assumption) ?_) (fun y hy => ?_) | refine f_bind (hc_gX7_isLeft h00 (by assumption) ?_) (fun y hy => ?_)  | refine f_bindF (by assumption) ?_ (fun j hj => ?_) | refine f_bindZ (by assumption) (fun j hj hz => ?_) | refine f_some ?_ | assumption | exact okl (by assumption) | exact okw (by assumption) (by assumption) (by assumption) (by decide) | exact h00 | refine Iv_u (by assumption) ?_ | refine Iv_cp (by assumption) ?_ | refine Iv_r ?_ ?_ ?_ | refine Iv_new (by assumption) (by assumption) (by assumption) | refine Iv_th (by assumption) | refine Iv_u ?_ ?_ | refine Iv_cp ?_ ?_ | apply And.intro))
set_option maxRecDepth 100000 in
set_option maxHeartbeats 4000000 in
theorem hc_gX2_howManyAreLeft (h00 : W 0) {n : Nat} {r0 : Nat} {M : ao_M} {ρ : ao_H} (hI : Iv W M0 ρ0 M ρ) (h_r0 : W r0) : ∀ z, gX2_howManyAreLeft n r0 M ρ = some z → Iv W M0 ρ0 z.2 ρ := by
  unfold gX2_howManyAreLeft
  exact hc_fX2_howManyAreLeft h00 _ _ _ _ _ _ _ hI (by first | assumption | exact h00 | exact fun h => absurd h (by decide))
set_option maxRecDepth 100000 in
set_option maxHeartbeats 4000000 in
theorem hc_fX10_round (h00 : W 0) : ∀ (n : Nat) (pc : Nat) (r0 : Nat) (x1 : Int32) (x2 : Int32) (x3 : Int32) (x4 : Int32) (r5 : Nat) (x6 : Int32) (s0 : Int32) (M : ao_M) (ρ : ao_H), Iv W M0 ρ0 M ρ → W r0 → W r5 → ∀ z, fX10_round n pc r0 x1 x2 x3 x4 r5 x6 s0 M ρ = some z → Iv W M0 ρ0 z.2.1 z.2.2 := by
  intro n
  induction n with
  | zero => intros; exact absurd (by assumption) (by simp [fX10_round.eq_1])
  | succ n ih =>
    intro pc r0 x1 x2 x3 x4 r5 x6 s0 M ρ hI h_r0 h_r5
    rw [fX10_round.eq_2]
    repeat' (with_reducible (first | exact f_none | refine f_ite (fun hc => ?_) (fun hc => ?_) | refine f_letM (Iv_u (by assumption) ?_) (fun M' hM' => ?_) | refine f_letI (fun v => ?_) | refine f_cs (fun x => ?_) (fun E => ?_) | refine f_letM (Iv_cp (by assumption) ?_) (fun M' hM' => ?_) | refine f_letM (by assumption) (fun M' hM' => ?_) | refine ih _ _ _ _ _ _ _ _ _ _ _ (by assumption) ?_ ?_ | refine ih _ _ _ _ _ _ _ _ _ _ _ ?_ ?_ ?_ | refine f_bind (ih _ _ _ _ _ _ _ _ _ _ _ (by assumption) ?_ ?_) (fun y hy => ?_) | refine f_bind (hc_gX2_howManyAreLeft h00 (by assumption) ?_) (fun y hy => ?_) | refine f_bind (hc_gX7_isLeft h00 (by assumption) ?_) (fun y hy => ?_) | refine f_bind (hc_gX2_takeTurn h00 (by assumption) ?_ ?_) (fun y hy => ?_)  | refine f_bindF (by assumption) ?_ (fun j hj => ?_) | refine f_bindZ (by assumption) (fun j hj hz => ?_) | refine f_some ?_ | assumption | exact okl (by assumption) | exact okw (by assumption) (by assumption) (by assumption) (by decide) | exact h00 | refine Iv_u (by assumption) ?_ | refine Iv_cp (by assumption) ?_ | refine Iv_r ?_ ?_ ?_ | refine Iv_new (by assumption) (by assumption) (by assumption) | refine Iv_th (by assumption) | refine Iv_u ?_ ?_ | refine Iv_cp ?_ ?_ | apply And.intro))
set_option maxRecDepth 100000 in
set_option maxHeartbeats 4000000 in
theorem hc_gX10_round (h00 : W 0) {n : Nat} {r0 : Nat} {x1 : Int32} {M : ao_M} {ρ : ao_H} (hI : Iv W M0 ρ0 M ρ) (h_r0 : W r0) : ∀ z, gX10_round n r0 x1 M ρ = some z → Iv W M0 ρ0 z.2.1 z.2.2 := by
  unfold gX10_round
  exact hc_fX10_round h00 _ _ _ _ _ _ _ _ _ _ _ _ hI (by first | assumption | exact h00 | exact fun h => absurd h (by decide)) (by first | assumption | exact h00 | exact fun h => absurd h (by decide))
set_option maxRecDepth 100000 in
set_option maxHeartbeats 4000000 in
theorem hc_fL_round (h00 : W 0) : ∀ (n : Nat) (pc : Nat) (r0 : Nat) (x1 : Int32) (r2 : Nat) (s0 : Int32) (s1 : Int32) (q2 : Nat) (M : ao_M) (ρ : ao_H), Iv W M0 ρ0 M ρ → W r0 → W r2 → W q2 → ∀ z, fL_round n pc r0 x1 r2 s0 s1 q2 M ρ = some z → Iv W M0 ρ0 z.2.1 z.2.2 := by
  intro n
  induction n with
  | zero => intros; exact absurd (by assumption) (by simp [fL_round.eq_1])
  | succ n ih =>
    intro pc r0 x1 r2 s0 s1 q2 M ρ hI h_r0 h_r2 h_q2
    rw [fL_round.eq_2]
    repeat' (with_reducible (first | exact f_none | refine f_ite (fun hc => ?_) (fun hc => ?_) | refine f_letM (Iv_u (by assumption) ?_) (fun M' hM' => ?_) | refine f_letI (fun v => ?_) | refine f_cs (fun x => ?_) (fun E => ?_) | refine f_letM (Iv_cp (by assumption) ?_) (fun M' hM' => ?_) | refine f_letM (by assumption) (fun M' hM' => ?_) | refine ih _ _ _ _ _ _ _ _ _ (by assumption) ?_ ?_ ?_ | refine ih _ _ _ _ _ _ _ _ _ ?_ ?_ ?_ ?_ | refine f_bind (ih _ _ _ _ _ _ _ _ _ (by assumption) ?_ ?_ ?_) (fun y hy => ?_) | refine f_bind (hc_gX10_round h00 (by assumption) ?_) (fun y hy => ?_)  | refine f_bindF (by assumption) ?_ (fun j hj => ?_) | refine f_bindZ (by assumption) (fun j hj hz => ?_) | refine f_some ?_ | assumption | exact okl (by assumption) | exact okw (by assumption) (by assumption) (by assumption) (by decide) | exact h00 | refine Iv_u (by assumption) ?_ | refine Iv_cp (by assumption) ?_ | refine Iv_r ?_ ?_ ?_ | refine Iv_new (by assumption) (by assumption) (by assumption) | refine Iv_th (by assumption) | refine Iv_u ?_ ?_ | refine Iv_cp ?_ ?_ | apply And.intro))
set_option maxRecDepth 100000 in
set_option maxHeartbeats 4000000 in
theorem hc_gL_round (h00 : W 0) {n : Nat} {r0 : Nat} {x1 : Int32} {r2 : Nat} {M : ao_M} {ρ : ao_H} (hI : Iv W M0 ρ0 M ρ) (h_r0 : W r0) (h_r2 : W r2) : ∀ z, gL_round n r0 x1 r2 M ρ = some z → Iv W M0 ρ0 z.2.1 z.2.2 := by
  unfold gL_round
  exact hc_fL_round h00 _ _ _ _ _ _ _ _ _ _ hI (by first | assumption | exact h00 | exact fun h => absurd h (by decide)) (by first | assumption | exact h00 | exact fun h => absurd h (by decide)) (by first | assumption | exact h00 | exact fun h => absurd h (by decide))
set_option maxRecDepth 100000 in
set_option maxHeartbeats 4000000 in
theorem hc_fX10_has (h00 : W 0) : ∀ (n : Nat) (pc : Nat) (r0 : Nat) (x1 : Int32) (M : ao_M) (ρ : ao_H), Iv W M0 ρ0 M ρ → W r0 → ∀ z, fX10_has n pc r0 x1 M ρ = some z → Iv W M0 ρ0 z.2.1 z.2.2 := by
  intro n
  induction n with
  | zero => intros; exact absurd (by assumption) (by simp [fX10_has.eq_1])
  | succ n ih =>
    intro pc r0 x1 M ρ hI h_r0
    rw [fX10_has.eq_2]
    repeat' (with_reducible (first | exact f_none | refine f_ite (fun hc => ?_) (fun hc => ?_) | refine f_letM (Iv_u (by assumption) ?_) (fun M' hM' => ?_) | refine f_letI (fun v => ?_) | refine f_cs (fun x => ?_) (fun E => ?_) | refine f_letM (Iv_cp (by assumption) ?_) (fun M' hM' => ?_) | refine f_letM (by assumption) (fun M' hM' => ?_) | refine ih _ _ _ _ _ (by assumption) ?_ | refine ih _ _ _ _ _ ?_ ?_ | refine f_bind (ih _ _ _ _ _ (by assumption) ?_) (fun y hy => ?_)  | refine f_bindF (by assumption) ?_ (fun j hj => ?_) | refine f_bindZ (by assumption) (fun j hj hz => ?_) | refine f_some ?_ | assumption | exact okl (by assumption) | exact okw (by assumption) (by assumption) (by assumption) (by decide) | exact h00 | refine Iv_u (by assumption) ?_ | refine Iv_cp (by assumption) ?_ | refine Iv_r ?_ ?_ ?_ | refine Iv_new (by assumption) (by assumption) (by assumption) | refine Iv_th (by assumption) | refine Iv_u ?_ ?_ | refine Iv_cp ?_ ?_ | apply And.intro))
set_option maxRecDepth 100000 in
set_option maxHeartbeats 4000000 in
theorem hc_gX10_has (h00 : W 0) {n : Nat} {r0 : Nat} {x1 : Int32} {M : ao_M} {ρ : ao_H} (hI : Iv W M0 ρ0 M ρ) (h_r0 : W r0) : ∀ z, gX10_has n r0 x1 M ρ = some z → Iv W M0 ρ0 z.2.1 z.2.2 := by
  unfold gX10_has
  exact hc_fX10_has h00 _ _ _ _ _ _ hI (by first | assumption | exact h00 | exact fun h => absurd h (by decide))
set_option maxRecDepth 100000 in
set_option maxHeartbeats 4000000 in
theorem hc_fL_has (h00 : W 0) : ∀ (n : Nat) (pc : Nat) (r0 : Nat) (x1 : Int32) (r2 : Nat) (s0 : Int32) (s1 : Int32) (q2 : Nat) (M : ao_M) (ρ : ao_H), Iv W M0 ρ0 M ρ → W r0 → W r2 → W q2 → ∀ z, fL_has n pc r0 x1 r2 s0 s1 q2 M ρ = some z → Iv W M0 ρ0 z.2.1 z.2.2 := by
  intro n
  induction n with
  | zero => intros; exact absurd (by assumption) (by simp [fL_has.eq_1])
  | succ n ih =>
    intro pc r0 x1 r2 s0 s1 q2 M ρ hI h_r0 h_r2 h_q2
    rw [fL_has.eq_2]
    repeat' (with_reducible (first | exact f_none | refine f_ite (fun hc => ?_) (fun hc => ?_) | refine f_letM (Iv_u (by assumption) ?_) (fun M' hM' => ?_) | refine f_letI (fun v => ?_) | refine f_cs (fun x => ?_) (fun E => ?_) | refine f_letM (Iv_cp (by assumption) ?_) (fun M' hM' => ?_) | refine f_letM (by assumption) (fun M' hM' => ?_) | refine ih _ _ _ _ _ _ _ _ _ (by assumption) ?_ ?_ ?_ | refine ih _ _ _ _ _ _ _ _ _ ?_ ?_ ?_ ?_ | refine f_bind (ih _ _ _ _ _ _ _ _ _ (by assumption) ?_ ?_ ?_) (fun y hy => ?_) | refine f_bind (hc_gX10_has h00 (by assumption) ?_) (fun y hy => ?_)  | refine f_bindF (by assumption) ?_ (fun j hj => ?_) | refine f_bindZ (by assumption) (fun j hj hz => ?_) | refine f_some ?_ | assumption | exact okl (by assumption) | exact okw (by assumption) (by assumption) (by assumption) (by decide) | exact h00 | refine Iv_u (by assumption) ?_ | refine Iv_cp (by assumption) ?_ | refine Iv_r ?_ ?_ ?_ | refine Iv_new (by assumption) (by assumption) (by assumption) | refine Iv_th (by assumption) | refine Iv_u ?_ ?_ | refine Iv_cp ?_ ?_ | apply And.intro))
set_option maxRecDepth 100000 in
set_option maxHeartbeats 4000000 in
theorem hc_gL_has (h00 : W 0) {n : Nat} {r0 : Nat} {x1 : Int32} {r2 : Nat} {M : ao_M} {ρ : ao_H} (hI : Iv W M0 ρ0 M ρ) (h_r0 : W r0) (h_r2 : W r2) : ∀ z, gL_has n r0 x1 r2 M ρ = some z → Iv W M0 ρ0 z.2.1 z.2.2 := by
  unfold gL_has
  exact hc_fL_has h00 _ _ _ _ _ _ _ _ _ _ hI (by first | assumption | exact h00 | exact fun h => absurd h (by decide)) (by first | assumption | exact h00 | exact fun h => absurd h (by decide)) (by first | assumption | exact h00 | exact fun h => absurd h (by decide))
set_option maxRecDepth 100000 in
set_option maxHeartbeats 4000000 in
theorem hc_fX10_had (h00 : W 0) : ∀ (n : Nat) (pc : Nat) (r0 : Nat) (x1 : Int32) (x2 : Int32) (M : ao_M) (ρ : ao_H), Iv W M0 ρ0 M ρ → W r0 → ∀ z, fX10_had n pc r0 x1 x2 M ρ = some z → Iv W M0 ρ0 z.2.1 z.2.2 := by
  intro n
  induction n with
  | zero => intros; exact absurd (by assumption) (by simp [fX10_had.eq_1])
  | succ n ih =>
    intro pc r0 x1 x2 M ρ hI h_r0
    rw [fX10_had.eq_2]
    repeat' (with_reducible (first | exact f_none | refine f_ite (fun hc => ?_) (fun hc => ?_) | refine f_letM (Iv_u (by assumption) ?_) (fun M' hM' => ?_) | refine f_letI (fun v => ?_) | refine f_cs (fun x => ?_) (fun E => ?_) | refine f_letM (Iv_cp (by assumption) ?_) (fun M' hM' => ?_) | refine f_letM (by assumption) (fun M' hM' => ?_) | refine ih _ _ _ _ _ _ (by assumption) ?_ | refine ih _ _ _ _ _ _ ?_ ?_ | refine f_bind (ih _ _ _ _ _ _ (by assumption) ?_) (fun y hy => ?_) | refine f_bind (hc_gX5_valueAt h00 (by assumption) ?_) (fun y hy => ?_)  | refine f_bindF (by assumption) ?_ (fun j hj => ?_) | refine f_bindZ (by assumption) (fun j hj hz => ?_) | refine f_some ?_ | assumption | exact okl (by assumption) | exact okw (by assumption) (by assumption) (by assumption) (by decide) | exact h00 | refine Iv_u (by assumption) ?_ | refine Iv_cp (by assumption) ?_ | refine Iv_r ?_ ?_ ?_ | refine Iv_new (by assumption) (by assumption) (by assumption) | refine Iv_th (by assumption) | refine Iv_u ?_ ?_ | refine Iv_cp ?_ ?_ | apply And.intro))
set_option maxRecDepth 100000 in
set_option maxHeartbeats 4000000 in
theorem hc_gX10_had (h00 : W 0) {n : Nat} {r0 : Nat} {x1 : Int32} {x2 : Int32} {M : ao_M} {ρ : ao_H} (hI : Iv W M0 ρ0 M ρ) (h_r0 : W r0) : ∀ z, gX10_had n r0 x1 x2 M ρ = some z → Iv W M0 ρ0 z.2.1 z.2.2 := by
  unfold gX10_had
  exact hc_fX10_had h00 _ _ _ _ _ _ _ hI (by first | assumption | exact h00 | exact fun h => absurd h (by decide))
set_option maxRecDepth 100000 in
set_option maxHeartbeats 4000000 in
theorem hc_fL_had (h00 : W 0) : ∀ (n : Nat) (pc : Nat) (r0 : Nat) (x1 : Int32) (x2 : Int32) (r3 : Nat) (s0 : Int32) (s1 : Int32) (q2 : Nat) (M : ao_M) (ρ : ao_H), Iv W M0 ρ0 M ρ → W r0 → W r3 → W q2 → ∀ z, fL_had n pc r0 x1 x2 r3 s0 s1 q2 M ρ = some z → Iv W M0 ρ0 z.2.1 z.2.2 := by
  intro n
  induction n with
  | zero => intros; exact absurd (by assumption) (by simp [fL_had.eq_1])
  | succ n ih =>
    intro pc r0 x1 x2 r3 s0 s1 q2 M ρ hI h_r0 h_r3 h_q2
    rw [fL_had.eq_2]
    repeat' (with_reducible (first | exact f_none | refine f_ite (fun hc => ?_) (fun hc => ?_) | refine f_letM (Iv_u (by assumption) ?_) (fun M' hM' => ?_) | refine f_letI (fun v => ?_) | refine f_cs (fun x => ?_) (fun E => ?_) | refine f_letM (Iv_cp (by assumption) ?_) (fun M' hM' => ?_) | refine f_letM (by assumption) (fun M' hM' => ?_) | refine ih _ _ _ _ _ _ _ _ _ _ (by assumption) ?_ ?_ ?_ | refine ih _ _ _ _ _ _ _ _ _ _ ?_ ?_ ?_ ?_ | refine f_bind (ih _ _ _ _ _ _ _ _ _ _ (by assumption) ?_ ?_ ?_) (fun y hy => ?_) | refine f_bind (hc_gX10_had h00 (by assumption) ?_) (fun y hy => ?_)  | refine f_bindF (by assumption) ?_ (fun j hj => ?_) | refine f_bindZ (by assumption) (fun j hj hz => ?_) | refine f_some ?_ | assumption | exact okl (by assumption) | exact okw (by assumption) (by assumption) (by assumption) (by decide) | exact h00 | refine Iv_u (by assumption) ?_ | refine Iv_cp (by assumption) ?_ | refine Iv_r ?_ ?_ ?_ | refine Iv_new (by assumption) (by assumption) (by assumption) | refine Iv_th (by assumption) | refine Iv_u ?_ ?_ | refine Iv_cp ?_ ?_ | apply And.intro))
set_option maxRecDepth 100000 in
set_option maxHeartbeats 4000000 in
theorem hc_gL_had (h00 : W 0) {n : Nat} {r0 : Nat} {x1 : Int32} {x2 : Int32} {r3 : Nat} {M : ao_M} {ρ : ao_H} (hI : Iv W M0 ρ0 M ρ) (h_r0 : W r0) (h_r3 : W r3) : ∀ z, gL_had n r0 x1 x2 r3 M ρ = some z → Iv W M0 ρ0 z.2.1 z.2.2 := by
  unfold gL_had
  exact hc_fL_had h00 _ _ _ _ _ _ _ _ _ _ _ hI (by first | assumption | exact h00 | exact fun h => absurd h (by decide)) (by first | assumption | exact h00 | exact fun h => absurd h (by decide)) (by first | assumption | exact h00 | exact fun h => absurd h (by decide))
set_option maxRecDepth 100000 in
set_option maxHeartbeats 4000000 in
theorem hc_fX10_register (h00 : W 0) : ∀ (n : Nat) (pc : Nat) (r0 : Nat) (x1 : Int32) (x2 : Int32) (M : ao_M) (ρ : ao_H), Iv W M0 ρ0 M ρ → W r0 → ∀ z, fX10_register n pc r0 x1 x2 M ρ = some z → Iv W M0 ρ0 z.2.1 z.2.2 := by
  intro n
  induction n with
  | zero => intros; exact absurd (by assumption) (by simp [fX10_register.eq_1])
  | succ n ih =>
    intro pc r0 x1 x2 M ρ hI h_r0
    rw [fX10_register.eq_2]
    repeat' (with_reducible (first | exact f_none | refine f_ite (fun hc => ?_) (fun hc => ?_) | refine f_letM (Iv_u (by assumption) ?_) (fun M' hM' => ?_) | refine f_letI (fun v => ?_) | refine f_cs (fun x => ?_) (fun E => ?_) | refine f_letM (Iv_cp (by assumption) ?_) (fun M' hM' => ?_) | refine f_letM (by assumption) (fun M' hM' => ?_) | refine ih _ _ _ _ _ _ (by assumption) ?_ | refine ih _ _ _ _ _ _ ?_ ?_ | refine f_bind (ih _ _ _ _ _ _ (by assumption) ?_) (fun y hy => ?_)  | refine f_bindF (by assumption) ?_ (fun j hj => ?_) | refine f_bindZ (by assumption) (fun j hj hz => ?_) | refine f_some ?_ | assumption | exact okl (by assumption) | exact okw (by assumption) (by assumption) (by assumption) (by decide) | exact h00 | refine Iv_u (by assumption) ?_ | refine Iv_cp (by assumption) ?_ | refine Iv_r ?_ ?_ ?_ | refine Iv_new (by assumption) (by assumption) (by assumption) | refine Iv_th (by assumption) | refine Iv_u ?_ ?_ | refine Iv_cp ?_ ?_ | apply And.intro))
set_option maxRecDepth 100000 in
set_option maxHeartbeats 4000000 in
theorem hc_gX10_register (h00 : W 0) {n : Nat} {r0 : Nat} {x1 : Int32} {x2 : Int32} {M : ao_M} {ρ : ao_H} (hI : Iv W M0 ρ0 M ρ) (h_r0 : W r0) : ∀ z, gX10_register n r0 x1 x2 M ρ = some z → Iv W M0 ρ0 z.2.1 z.2.2 := by
  unfold gX10_register
  exact hc_fX10_register h00 _ _ _ _ _ _ _ hI (by first | assumption | exact h00 | exact fun h => absurd h (by decide))
set_option maxRecDepth 100000 in
set_option maxHeartbeats 4000000 in
theorem hc_fL_register (h00 : W 0) : ∀ (n : Nat) (pc : Nat) (r0 : Nat) (x1 : Int32) (x2 : Int32) (r3 : Nat) (s0 : Int32) (s1 : Int32) (q2 : Nat) (M : ao_M) (ρ : ao_H), Iv W M0 ρ0 M ρ → W r0 → W r3 → W q2 → ∀ z, fL_register n pc r0 x1 x2 r3 s0 s1 q2 M ρ = some z → Iv W M0 ρ0 z.2.1 z.2.2 := by
  intro n
  induction n with
  | zero => intros; exact absurd (by assumption) (by simp [fL_register.eq_1])
  | succ n ih =>
    intro pc r0 x1 x2 r3 s0 s1 q2 M ρ hI h_r0 h_r3 h_q2
    rw [fL_register.eq_2]
    repeat' (with_reducible (first | exact f_none | refine f_ite (fun hc => ?_) (fun hc => ?_) | refine f_letM (Iv_u (by assumption) ?_) (fun M' hM' => ?_) | refine f_letI (fun v => ?_) | refine f_cs (fun x => ?_) (fun E => ?_) | refine f_letM (Iv_cp (by assumption) ?_) (fun M' hM' => ?_) | refine f_letM (by assumption) (fun M' hM' => ?_) | refine ih _ _ _ _ _ _ _ _ _ _ (by assumption) ?_ ?_ ?_ | refine ih _ _ _ _ _ _ _ _ _ _ ?_ ?_ ?_ ?_ | refine f_bind (ih _ _ _ _ _ _ _ _ _ _ (by assumption) ?_ ?_ ?_) (fun y hy => ?_) | refine f_bind (hc_gX10_register h00 (by assumption) ?_) (fun y hy => ?_)  | refine f_bindF (by assumption) ?_ (fun j hj => ?_) | refine f_bindZ (by assumption) (fun j hj hz => ?_) | refine f_some ?_ | assumption | exact okl (by assumption) | exact okw (by assumption) (by assumption) (by assumption) (by decide) | exact h00 | refine Iv_u (by assumption) ?_ | refine Iv_cp (by assumption) ?_ | refine Iv_r ?_ ?_ ?_ | refine Iv_new (by assumption) (by assumption) (by assumption) | refine Iv_th (by assumption) | refine Iv_u ?_ ?_ | refine Iv_cp ?_ ?_ | apply And.intro))
set_option maxRecDepth 100000 in
set_option maxHeartbeats 4000000 in
theorem hc_gL_register (h00 : W 0) {n : Nat} {r0 : Nat} {x1 : Int32} {x2 : Int32} {r3 : Nat} {M : ao_M} {ρ : ao_H} (hI : Iv W M0 ρ0 M ρ) (h_r0 : W r0) (h_r3 : W r3) : ∀ z, gL_register n r0 x1 x2 r3 M ρ = some z → Iv W M0 ρ0 z.2.1 z.2.2 := by
  unfold gL_register
  exact hc_fL_register h00 _ _ _ _ _ _ _ _ _ _ _ hI (by first | assumption | exact h00 | exact fun h => absurd h (by decide)) (by first | assumption | exact h00 | exact fun h => absurd h (by decide)) (by first | assumption | exact h00 | exact fun h => absurd h (by decide))
set_option maxRecDepth 100000 in
set_option maxHeartbeats 4000000 in
theorem hc_fX10_said (h00 : W 0) : ∀ (n : Nat) (pc : Nat) (r0 : Nat) (x1 : Int32) (x2 : Int32) (r3 : Nat) (M : ao_M) (ρ : ao_H), Iv W M0 ρ0 M ρ → W r0 → W r3 → ∀ z, fX10_said n pc r0 x1 x2 r3 M ρ = some z → Iv W M0 ρ0 z.2.1 z.2.2 := by
  intro n
  induction n with
  | zero => intros; exact absurd (by assumption) (by simp [fX10_said.eq_1])
  | succ n ih =>
    intro pc r0 x1 x2 r3 M ρ hI h_r0 h_r3
    rw [fX10_said.eq_2]
    repeat' (with_reducible (first | exact f_none | refine f_ite (fun hc => ?_) (fun hc => ?_) | refine f_letM (Iv_u (by assumption) ?_) (fun M' hM' => ?_) | refine f_letI (fun v => ?_) | refine f_cs (fun x => ?_) (fun E => ?_) | refine f_letM (Iv_cp (by assumption) ?_) (fun M' hM' => ?_) | refine f_letM (by assumption) (fun M' hM' => ?_) | refine ih _ _ _ _ _ _ _ (by assumption) ?_ ?_ | refine ih _ _ _ _ _ _ _ ?_ ?_ ?_ | refine f_bind (ih _ _ _ _ _ _ _ (by assumption) ?_ ?_) (fun y hy => ?_)  | refine f_bindF (by assumption) ?_ (fun j hj => ?_) | refine f_bindZ (by assumption) (fun j hj hz => ?_) | refine f_some ?_ | assumption | exact okl (by assumption) | exact okw (by assumption) (by assumption) (by assumption) (by decide) | exact h00 | refine Iv_u (by assumption) ?_ | refine Iv_cp (by assumption) ?_ | refine Iv_r ?_ ?_ ?_ | refine Iv_new (by assumption) (by assumption) (by assumption) | refine Iv_th (by assumption) | refine Iv_u ?_ ?_ | refine Iv_cp ?_ ?_ | apply And.intro))
set_option maxRecDepth 100000 in
set_option maxHeartbeats 4000000 in
theorem hc_gX10_said (h00 : W 0) {n : Nat} {r0 : Nat} {x1 : Int32} {x2 : Int32} {M : ao_M} {ρ : ao_H} (hI : Iv W M0 ρ0 M ρ) (h_r0 : W r0) : ∀ z, gX10_said n r0 x1 x2 M ρ = some z → Iv W M0 ρ0 z.2.1 z.2.2 := by
  unfold gX10_said
  exact hc_fX10_said h00 _ _ _ _ _ _ _ _ hI (by first | assumption | exact h00 | exact fun h => absurd h (by decide)) (by first | assumption | exact h00 | exact fun h => absurd h (by decide))
set_option maxRecDepth 100000 in
set_option maxHeartbeats 4000000 in
theorem hc_fL_said (h00 : W 0) : ∀ (n : Nat) (pc : Nat) (r0 : Nat) (x1 : Int32) (x2 : Int32) (r3 : Nat) (s0 : Int32) (s1 : Int32) (q2 : Nat) (M : ao_M) (ρ : ao_H), Iv W M0 ρ0 M ρ → W r0 → W r3 → W q2 → ∀ z, fL_said n pc r0 x1 x2 r3 s0 s1 q2 M ρ = some z → Iv W M0 ρ0 z.2.1 z.2.2 := by
  intro n
  induction n with
  | zero => intros; exact absurd (by assumption) (by simp [fL_said.eq_1])
  | succ n ih =>
    intro pc r0 x1 x2 r3 s0 s1 q2 M ρ hI h_r0 h_r3 h_q2
    rw [fL_said.eq_2]
    repeat' (with_reducible (first | exact f_none | refine f_ite (fun hc => ?_) (fun hc => ?_) | refine f_letM (Iv_u (by assumption) ?_) (fun M' hM' => ?_) | refine f_letI (fun v => ?_) | refine f_cs (fun x => ?_) (fun E => ?_) | refine f_letM (Iv_cp (by assumption) ?_) (fun M' hM' => ?_) | refine f_letM (by assumption) (fun M' hM' => ?_) | refine ih _ _ _ _ _ _ _ _ _ _ (by assumption) ?_ ?_ ?_ | refine ih _ _ _ _ _ _ _ _ _ _ ?_ ?_ ?_ ?_ | refine f_bind (ih _ _ _ _ _ _ _ _ _ _ (by assumption) ?_ ?_ ?_) (fun y hy => ?_) | refine f_bind (hc_gX10_said h00 (by assumption) ?_) (fun y hy => ?_)  | refine f_bindF (by assumption) ?_ (fun j hj => ?_) | refine f_bindZ (by assumption) (fun j hj hz => ?_) | refine f_some ?_ | assumption | exact okl (by assumption) | exact okw (by assumption) (by assumption) (by assumption) (by decide) | exact h00 | refine Iv_u (by assumption) ?_ | refine Iv_cp (by assumption) ?_ | refine Iv_r ?_ ?_ ?_ | refine Iv_new (by assumption) (by assumption) (by assumption) | refine Iv_th (by assumption) | refine Iv_u ?_ ?_ | refine Iv_cp ?_ ?_ | apply And.intro))
set_option maxRecDepth 100000 in
set_option maxHeartbeats 4000000 in
theorem hc_gL_said (h00 : W 0) {n : Nat} {r0 : Nat} {x1 : Int32} {x2 : Int32} {r3 : Nat} {M : ao_M} {ρ : ao_H} (hI : Iv W M0 ρ0 M ρ) (h_r0 : W r0) (h_r3 : W r3) : ∀ z, gL_said n r0 x1 x2 r3 M ρ = some z → Iv W M0 ρ0 z.2.1 z.2.2 := by
  unfold gL_said
  exact hc_fL_said h00 _ _ _ _ _ _ _ _ _ _ _ hI (by first | assumption | exact h00 | exact fun h => absurd h (by decide)) (by first | assumption | exact h00 | exact fun h => absurd h (by decide)) (by first | assumption | exact h00 | exact fun h => absurd h (by decide))
set_option maxRecDepth 100000 in
set_option maxHeartbeats 4000000 in
theorem hc_fX7_readsOfAll (h00 : W 0) : ∀ (n : Nat) (pc : Nat) (r0 : Nat) (x1 : Int32) (x2 : Int32) (M : ao_M) (ρ : ao_H), Iv W M0 ρ0 M ρ → W r0 → ∀ z, fX7_readsOfAll n pc r0 x1 x2 M ρ = some z → Iv W M0 ρ0 z.2 ρ := by
  intro n
  induction n with
  | zero => intros; exact absurd (by assumption) (by simp [fX7_readsOfAll.eq_1])
  | succ n ih =>
    intro pc r0 x1 x2 M ρ hI h_r0
    rw [fX7_readsOfAll.eq_2]
    repeat' (with_reducible (first | exact f_none | refine f_ite (fun hc => ?_) (fun hc => ?_) | refine f_letM (Iv_u (by assumption) ?_) (fun M' hM' => ?_) | refine f_letI (fun v => ?_) | refine f_cs (fun x => ?_) (fun E => ?_) | refine f_letM (Iv_cp (by assumption) ?_) (fun M' hM' => ?_) | refine f_letM (by assumption) (fun M' hM' => ?_) | refine ih _ _ _ _ _ _ (by assumption) ?_ | refine ih _ _ _ _ _ _ ?_ ?_ | refine f_bind (ih _ _ _ _ _ _ (by assumption) ?_) (fun y hy => ?_) | refine f_bind2 (hc_gX7_level h00 (by assumption) ?_) (fun y hy1 hy2 => ?_)  | refine f_bindF (by assumption) ?_ (fun j hj => ?_) | refine f_bindZ (by assumption) (fun j hj hz => ?_) | refine f_some ?_ | assumption | exact okl (by assumption) | exact okw (by assumption) (by assumption) (by assumption) (by decide) | exact h00 | refine Iv_u (by assumption) ?_ | refine Iv_cp (by assumption) ?_ | refine Iv_r ?_ ?_ ?_ | refine Iv_new (by assumption) (by assumption) (by assumption) | refine Iv_th (by assumption) | refine Iv_u ?_ ?_ | refine Iv_cp ?_ ?_ | apply And.intro))
set_option maxRecDepth 100000 in
set_option maxHeartbeats 4000000 in
theorem hc_gX7_readsOfAll (h00 : W 0) {n : Nat} {r0 : Nat} {M : ao_M} {ρ : ao_H} (hI : Iv W M0 ρ0 M ρ) (h_r0 : W r0) : ∀ z, gX7_readsOfAll n r0 M ρ = some z → Iv W M0 ρ0 z.2 ρ := by
  unfold gX7_readsOfAll
  exact hc_fX7_readsOfAll h00 _ _ _ _ _ _ _ hI (by first | assumption | exact h00 | exact fun h => absurd h (by decide))
set_option maxRecDepth 100000 in
set_option maxHeartbeats 4000000 in
theorem hc_fX7_writesOfAll (h00 : W 0) : ∀ (n : Nat) (pc : Nat) (r0 : Nat) (x1 : Int32) (x2 : Int32) (M : ao_M) (ρ : ao_H), Iv W M0 ρ0 M ρ → W r0 → ∀ z, fX7_writesOfAll n pc r0 x1 x2 M ρ = some z → Iv W M0 ρ0 z.2 ρ := by
  intro n
  induction n with
  | zero => intros; exact absurd (by assumption) (by simp [fX7_writesOfAll.eq_1])
  | succ n ih =>
    intro pc r0 x1 x2 M ρ hI h_r0
    rw [fX7_writesOfAll.eq_2]
    repeat' (with_reducible (first | exact f_none | refine f_ite (fun hc => ?_) (fun hc => ?_) | refine f_letM (Iv_u (by assumption) ?_) (fun M' hM' => ?_) | refine f_letI (fun v => ?_) | refine f_cs (fun x => ?_) (fun E => ?_) | refine f_letM (Iv_cp (by assumption) ?_) (fun M' hM' => ?_) | refine f_letM (by assumption) (fun M' hM' => ?_) | refine ih _ _ _ _ _ _ (by assumption) ?_ | refine ih _ _ _ _ _ _ ?_ ?_ | refine f_bind (ih _ _ _ _ _ _ (by assumption) ?_) (fun y hy => ?_) | refine f_bind2 (hc_gX7_level h00 (by assumption) ?_) (fun y hy1 hy2 => ?_)  | refine f_bindF (by assumption) ?_ (fun j hj => ?_) | refine f_bindZ (by assumption) (fun j hj hz => ?_) | refine f_some ?_ | assumption | exact okl (by assumption) | exact okw (by assumption) (by assumption) (by assumption) (by decide) | exact h00 | refine Iv_u (by assumption) ?_ | refine Iv_cp (by assumption) ?_ | refine Iv_r ?_ ?_ ?_ | refine Iv_new (by assumption) (by assumption) (by assumption) | refine Iv_th (by assumption) | refine Iv_u ?_ ?_ | refine Iv_cp ?_ ?_ | apply And.intro))
set_option maxRecDepth 100000 in
set_option maxHeartbeats 4000000 in
theorem hc_gX7_writesOfAll (h00 : W 0) {n : Nat} {r0 : Nat} {M : ao_M} {ρ : ao_H} (hI : Iv W M0 ρ0 M ρ) (h_r0 : W r0) : ∀ z, gX7_writesOfAll n r0 M ρ = some z → Iv W M0 ρ0 z.2 ρ := by
  unfold gX7_writesOfAll
  exact hc_fX7_writesOfAll h00 _ _ _ _ _ _ _ hI (by first | assumption | exact h00 | exact fun h => absurd h (by decide))
set_option maxRecDepth 100000 in
set_option maxHeartbeats 4000000 in
theorem hc_gJ6_bitCount_0f7a4 (h00 : W 0) {x0 : Int32} {M : ao_M} {ρ : ao_H} (hI : Iv W M0 ρ0 M ρ)  : ∀ z, gJ6_bitCount_0f7a4 x0 M ρ = some z → Iv W M0 ρ0 z.2 ρ := by
  unfold gJ6_bitCount_0f7a4
  repeat' (with_reducible (first | exact f_none | refine f_ite (fun hc => ?_) (fun hc => ?_) | refine f_letM (Iv_u (by assumption) ?_) (fun M' hM' => ?_) | refine f_letI (fun v => ?_) | refine f_cs (fun x => ?_) (fun E => ?_) | refine f_letM (Iv_cp (by assumption) ?_) (fun M' hM' => ?_) | refine f_letM (by assumption) (fun M' hM' => ?_)  | refine f_bindF (by assumption) ?_ (fun j hj => ?_) | refine f_bindZ (by assumption) (fun j hj hz => ?_) | refine f_some ?_ | assumption | exact okl (by assumption) | exact okw (by assumption) (by assumption) (by assumption) (by decide) | exact h00 | refine Iv_u (by assumption) ?_ | refine Iv_cp (by assumption) ?_ | refine Iv_r ?_ ?_ ?_ | refine Iv_new (by assumption) (by assumption) (by assumption) | refine Iv_th (by assumption) | refine Iv_u ?_ ?_ | refine Iv_cp ?_ ?_ | apply And.intro))
set_option maxRecDepth 100000 in
set_option maxHeartbeats 4000000 in
theorem hc_gX7_tellOf (h00 : W 0) {n : Nat} {r0 : Nat} {x1 : Int32} {M : ao_M} {ρ : ao_H} (hI : Iv W M0 ρ0 M ρ) (h_r0 : W r0) : ∀ z, gX7_tellOf n r0 x1 M ρ = some z → Iv W M0 ρ0 z.2 ρ := by
  unfold gX7_tellOf
  repeat' (with_reducible (first | exact f_none | refine f_ite (fun hc => ?_) (fun hc => ?_) | refine f_letM (Iv_u (by assumption) ?_) (fun M' hM' => ?_) | refine f_letI (fun v => ?_) | refine f_cs (fun x => ?_) (fun E => ?_) | refine f_letM (Iv_cp (by assumption) ?_) (fun M' hM' => ?_) | refine f_letM (by assumption) (fun M' hM' => ?_) | refine f_bind (hc_gX7_readsOfAll h00 (by assumption) ?_) (fun y hy => ?_) | refine f_bind (hc_gX7_writesOfAll h00 (by assumption) ?_) (fun y hy => ?_) | refine f_bind (hc_gJ6_bitCount_0f7a4 h00 (by assumption)) (fun y hy => ?_)  | refine f_bindF (by assumption) ?_ (fun j hj => ?_) | refine f_bindZ (by assumption) (fun j hj hz => ?_) | refine f_some ?_ | assumption | exact okl (by assumption) | exact okw (by assumption) (by assumption) (by assumption) (by decide) | exact h00 | refine Iv_u (by assumption) ?_ | refine Iv_cp (by assumption) ?_ | refine Iv_r ?_ ?_ ?_ | refine Iv_new (by assumption) (by assumption) (by assumption) | refine Iv_th (by assumption) | refine Iv_u ?_ ?_ | refine Iv_cp ?_ ?_ | apply And.intro))
set_option maxRecDepth 100000 in
set_option maxHeartbeats 4000000 in
theorem hc_fX10_look (h00 : W 0) : ∀ (n : Nat) (pc : Nat) (r0 : Nat) (x1 : Int32) (x2 : Int32) (M : ao_M) (ρ : ao_H), Iv W M0 ρ0 M ρ → W r0 → ∀ z, fX10_look n pc r0 x1 x2 M ρ = some z → Iv W M0 ρ0 z.2.1 z.2.2 := by
  intro n
  induction n with
  | zero => intros; exact absurd (by assumption) (by simp [fX10_look.eq_1])
  | succ n ih =>
    intro pc r0 x1 x2 M ρ hI h_r0
    rw [fX10_look.eq_2]
    repeat' (with_reducible (first | exact f_none | refine f_ite (fun hc => ?_) (fun hc => ?_) | refine f_letM (Iv_u (by assumption) ?_) (fun M' hM' => ?_) | refine f_letI (fun v => ?_) | refine f_cs (fun x => ?_) (fun E => ?_) | refine f_letM (Iv_cp (by assumption) ?_) (fun M' hM' => ?_) | refine f_letM (by assumption) (fun M' hM' => ?_) | refine ih _ _ _ _ _ _ (by assumption) ?_ | refine ih _ _ _ _ _ _ ?_ ?_ | refine f_bind (ih _ _ _ _ _ _ (by assumption) ?_) (fun y hy => ?_) | refine f_bind (hc_gX7_tellOf h00 (by assumption) ?_) (fun y hy => ?_)  | refine f_bindF (by assumption) ?_ (fun j hj => ?_) | refine f_bindZ (by assumption) (fun j hj hz => ?_) | refine f_some ?_ | assumption | exact okl (by assumption) | exact okw (by assumption) (by assumption) (by assumption) (by decide) | exact h00 | refine Iv_u (by assumption) ?_ | refine Iv_cp (by assumption) ?_ | refine Iv_r ?_ ?_ ?_ | refine Iv_new (by assumption) (by assumption) (by assumption) | refine Iv_th (by assumption) | refine Iv_u ?_ ?_ | refine Iv_cp ?_ ?_ | apply And.intro))
set_option maxRecDepth 100000 in
set_option maxHeartbeats 4000000 in
theorem hc_gX10_look (h00 : W 0) {n : Nat} {r0 : Nat} {x1 : Int32} {x2 : Int32} {M : ao_M} {ρ : ao_H} (hI : Iv W M0 ρ0 M ρ) (h_r0 : W r0) : ∀ z, gX10_look n r0 x1 x2 M ρ = some z → Iv W M0 ρ0 z.2.1 z.2.2 := by
  unfold gX10_look
  exact hc_fX10_look h00 _ _ _ _ _ _ _ hI (by first | assumption | exact h00 | exact fun h => absurd h (by decide))
set_option maxRecDepth 100000 in
set_option maxHeartbeats 4000000 in
theorem hc_fL_look (h00 : W 0) : ∀ (n : Nat) (pc : Nat) (r0 : Nat) (x1 : Int32) (x2 : Int32) (r3 : Nat) (s0 : Int32) (s1 : Int32) (q2 : Nat) (M : ao_M) (ρ : ao_H), Iv W M0 ρ0 M ρ → W r0 → W r3 → W q2 → ∀ z, fL_look n pc r0 x1 x2 r3 s0 s1 q2 M ρ = some z → Iv W M0 ρ0 z.2.1 z.2.2 := by
  intro n
  induction n with
  | zero => intros; exact absurd (by assumption) (by simp [fL_look.eq_1])
  | succ n ih =>
    intro pc r0 x1 x2 r3 s0 s1 q2 M ρ hI h_r0 h_r3 h_q2
    rw [fL_look.eq_2]
    repeat' (with_reducible (first | exact f_none | refine f_ite (fun hc => ?_) (fun hc => ?_) | refine f_letM (Iv_u (by assumption) ?_) (fun M' hM' => ?_) | refine f_letI (fun v => ?_) | refine f_cs (fun x => ?_) (fun E => ?_) | refine f_letM (Iv_cp (by assumption) ?_) (fun M' hM' => ?_) | refine f_letM (by assumption) (fun M' hM' => ?_) | refine ih _ _ _ _ _ _ _ _ _ _ (by assumption) ?_ ?_ ?_ | refine ih _ _ _ _ _ _ _ _ _ _ ?_ ?_ ?_ ?_ | refine f_bind (ih _ _ _ _ _ _ _ _ _ _ (by assumption) ?_ ?_ ?_) (fun y hy => ?_) | refine f_bind (hc_gX10_look h00 (by assumption) ?_) (fun y hy => ?_)  | refine f_bindF (by assumption) ?_ (fun j hj => ?_) | refine f_bindZ (by assumption) (fun j hj hz => ?_) | refine f_some ?_ | assumption | exact okl (by assumption) | exact okw (by assumption) (by assumption) (by assumption) (by decide) | exact h00 | refine Iv_u (by assumption) ?_ | refine Iv_cp (by assumption) ?_ | refine Iv_r ?_ ?_ ?_ | refine Iv_new (by assumption) (by assumption) (by assumption) | refine Iv_th (by assumption) | refine Iv_u ?_ ?_ | refine Iv_cp ?_ ?_ | apply And.intro))
set_option maxRecDepth 100000 in
set_option maxHeartbeats 4000000 in
theorem hc_gL_look (h00 : W 0) {n : Nat} {r0 : Nat} {x1 : Int32} {x2 : Int32} {r3 : Nat} {M : ao_M} {ρ : ao_H} (hI : Iv W M0 ρ0 M ρ) (h_r0 : W r0) (h_r3 : W r3) : ∀ z, gL_look n r0 x1 x2 r3 M ρ = some z → Iv W M0 ρ0 z.2.1 z.2.2 := by
  unfold gL_look
  exact hc_fL_look h00 _ _ _ _ _ _ _ _ _ _ _ hI (by first | assumption | exact h00 | exact fun h => absurd h (by decide)) (by first | assumption | exact h00 | exact fun h => absurd h (by decide)) (by first | assumption | exact h00 | exact fun h => absurd h (by decide))
set_option maxRecDepth 100000 in
set_option maxHeartbeats 4000000 in
theorem hc_gX6_isAhead (h00 : W 0) {r0 : Nat} {x1 : Int32} {x2 : Int32} {M : ao_M} {ρ : ao_H} (hI : Iv W M0 ρ0 M ρ) (h_r0 : W r0) : ∀ z, gX6_isAhead r0 x1 x2 M ρ = some z → Iv W M0 ρ0 z.2 ρ := by
  unfold gX6_isAhead
  repeat' (with_reducible (first | exact f_none | refine f_ite (fun hc => ?_) (fun hc => ?_) | refine f_letM (Iv_u (by assumption) ?_) (fun M' hM' => ?_) | refine f_letI (fun v => ?_) | refine f_cs (fun x => ?_) (fun E => ?_) | refine f_letM (Iv_cp (by assumption) ?_) (fun M' hM' => ?_) | refine f_letM (by assumption) (fun M' hM' => ?_)  | refine f_bindF (by assumption) ?_ (fun j hj => ?_) | refine f_bindZ (by assumption) (fun j hj hz => ?_) | refine f_some ?_ | assumption | exact okl (by assumption) | exact okw (by assumption) (by assumption) (by assumption) (by decide) | exact h00 | refine Iv_u (by assumption) ?_ | refine Iv_cp (by assumption) ?_ | refine Iv_r ?_ ?_ ?_ | refine Iv_new (by assumption) (by assumption) (by assumption) | refine Iv_th (by assumption) | refine Iv_u ?_ ?_ | refine Iv_cp ?_ ?_ | apply And.intro))
set_option maxRecDepth 100000 in
set_option maxHeartbeats 4000000 in
theorem hc_fX0_maskAhead (h00 : W 0) : ∀ (n : Nat) (pc : Nat) (r0 : Nat) (x1 : Int32) (x2 : Int32) (x3 : Int32) (x4 : Int32) (M : ao_M) (ρ : ao_H), Iv W M0 ρ0 M ρ → W r0 → ∀ z, fX0_maskAhead n pc r0 x1 x2 x3 x4 M ρ = some z → Iv W M0 ρ0 z.2 ρ := by
  intro n
  induction n with
  | zero => intros; exact absurd (by assumption) (by simp [fX0_maskAhead.eq_1])
  | succ n ih =>
    intro pc r0 x1 x2 x3 x4 M ρ hI h_r0
    rw [fX0_maskAhead.eq_2]
    repeat' (with_reducible (first | exact f_none | refine f_ite (fun hc => ?_) (fun hc => ?_) | refine f_letM (Iv_u (by assumption) ?_) (fun M' hM' => ?_) | refine f_letI (fun v => ?_) | refine f_cs (fun x => ?_) (fun E => ?_) | refine f_letM (Iv_cp (by assumption) ?_) (fun M' hM' => ?_) | refine f_letM (by assumption) (fun M' hM' => ?_) | refine ih _ _ _ _ _ _ _ _ (by assumption) ?_ | refine ih _ _ _ _ _ _ _ _ ?_ ?_ | refine f_bind (ih _ _ _ _ _ _ _ _ (by assumption) ?_) (fun y hy => ?_) | refine f_bind (hc_gX6_isAhead h00 (by assumption) ?_) (fun y hy => ?_)  | refine f_bindF (by assumption) ?_ (fun j hj => ?_) | refine f_bindZ (by assumption) (fun j hj hz => ?_) | refine f_some ?_ | assumption | exact okl (by assumption) | exact okw (by assumption) (by assumption) (by assumption) (by decide) | exact h00 | refine Iv_u (by assumption) ?_ | refine Iv_cp (by assumption) ?_ | refine Iv_r ?_ ?_ ?_ | refine Iv_new (by assumption) (by assumption) (by assumption) | refine Iv_th (by assumption) | refine Iv_u ?_ ?_ | refine Iv_cp ?_ ?_ | apply And.intro))
set_option maxRecDepth 100000 in
set_option maxHeartbeats 4000000 in
theorem hc_gX0_maskAhead (h00 : W 0) {n : Nat} {r0 : Nat} {x1 : Int32} {x2 : Int32} {M : ao_M} {ρ : ao_H} (hI : Iv W M0 ρ0 M ρ) (h_r0 : W r0) : ∀ z, gX0_maskAhead n r0 x1 x2 M ρ = some z → Iv W M0 ρ0 z.2 ρ := by
  unfold gX0_maskAhead
  exact hc_fX0_maskAhead h00 _ _ _ _ _ _ _ _ _ hI (by first | assumption | exact h00 | exact fun h => absurd h (by decide))
set_option maxRecDepth 100000 in
set_option maxHeartbeats 4000000 in
theorem hc_fX0_isAsItIs (h00 : W 0) : ∀ (n : Nat) (pc : Nat) (r0 : Nat) (r1 : Nat) (x2 : Int32) (x3 : Int32) (M : ao_M) (ρ : ao_H), Iv W M0 ρ0 M ρ → W r0 → W r1 → ∀ z, fX0_isAsItIs n pc r0 r1 x2 x3 M ρ = some z → Iv W M0 ρ0 z.2 ρ := by
  intro n
  induction n with
  | zero => intros; exact absurd (by assumption) (by simp [fX0_isAsItIs.eq_1])
  | succ n ih =>
    intro pc r0 r1 x2 x3 M ρ hI h_r0 h_r1
    rw [fX0_isAsItIs.eq_2]
    repeat' (with_reducible (first | exact f_none | refine f_ite (fun hc => ?_) (fun hc => ?_) | refine f_letM (Iv_u (by assumption) ?_) (fun M' hM' => ?_) | refine f_letI (fun v => ?_) | refine f_cs (fun x => ?_) (fun E => ?_) | refine f_letM (Iv_cp (by assumption) ?_) (fun M' hM' => ?_) | refine f_letM (by assumption) (fun M' hM' => ?_) | refine ih _ _ _ _ _ _ _ (by assumption) ?_ ?_ | refine ih _ _ _ _ _ _ _ ?_ ?_ ?_ | refine f_bind (ih _ _ _ _ _ _ _ (by assumption) ?_ ?_) (fun y hy => ?_)  | refine f_bindF (by assumption) ?_ (fun j hj => ?_) | refine f_bindZ (by assumption) (fun j hj hz => ?_) | refine f_some ?_ | assumption | exact okl (by assumption) | exact okw (by assumption) (by assumption) (by assumption) (by decide) | exact h00 | refine Iv_u (by assumption) ?_ | refine Iv_cp (by assumption) ?_ | refine Iv_r ?_ ?_ ?_ | refine Iv_new (by assumption) (by assumption) (by assumption) | refine Iv_th (by assumption) | refine Iv_u ?_ ?_ | refine Iv_cp ?_ ?_ | apply And.intro))
set_option maxRecDepth 100000 in
set_option maxHeartbeats 4000000 in
theorem hc_gX0_isAsItIs (h00 : W 0) {n : Nat} {r0 : Nat} {r1 : Nat} {x2 : Int32} {M : ao_M} {ρ : ao_H} (hI : Iv W M0 ρ0 M ρ) (h_r0 : W r0) (h_r1 : W r1) : ∀ z, gX0_isAsItIs n r0 r1 x2 M ρ = some z → Iv W M0 ρ0 z.2 ρ := by
  unfold gX0_isAsItIs
  exact hc_fX0_isAsItIs h00 _ _ _ _ _ _ _ _ hI (by first | assumption | exact h00 | exact fun h => absurd h (by decide)) (by first | assumption | exact h00 | exact fun h => absurd h (by decide))
set_option maxRecDepth 100000 in
set_option maxHeartbeats 4000000 in
theorem hc_fX6_readsAreRight (h00 : W 0) : ∀ (n : Nat) (pc : Nat) (r0 : Nat) (x1 : Int32) (r2 : Nat) (x3 : Int32) (M : ao_M) (ρ : ao_H), Iv W M0 ρ0 M ρ → W r0 → W r2 → ∀ z, fX6_readsAreRight n pc r0 x1 r2 x3 M ρ = some z → Iv W M0 ρ0 z.2 ρ := by
  intro n
  induction n with
  | zero => intros; exact absurd (by assumption) (by simp [fX6_readsAreRight.eq_1])
  | succ n ih =>
    intro pc r0 x1 r2 x3 M ρ hI h_r0 h_r2
    rw [fX6_readsAreRight.eq_2]
    repeat' (with_reducible (first | exact f_none | refine f_ite (fun hc => ?_) (fun hc => ?_) | refine f_letM (Iv_u (by assumption) ?_) (fun M' hM' => ?_) | refine f_letI (fun v => ?_) | refine f_cs (fun x => ?_) (fun E => ?_) | refine f_letM (Iv_cp (by assumption) ?_) (fun M' hM' => ?_) | refine f_letM (by assumption) (fun M' hM' => ?_) | refine ih _ _ _ _ _ _ _ (by assumption) ?_ ?_ | refine ih _ _ _ _ _ _ _ ?_ ?_ ?_ | refine f_bind (ih _ _ _ _ _ _ _ (by assumption) ?_ ?_) (fun y hy => ?_)  | refine f_bindF (by assumption) ?_ (fun j hj => ?_) | refine f_bindZ (by assumption) (fun j hj hz => ?_) | refine f_some ?_ | assumption | exact okl (by assumption) | exact okw (by assumption) (by assumption) (by assumption) (by decide) | exact h00 | refine Iv_u (by assumption) ?_ | refine Iv_cp (by assumption) ?_ | refine Iv_r ?_ ?_ ?_ | refine Iv_new (by assumption) (by assumption) (by assumption) | refine Iv_th (by assumption) | refine Iv_u ?_ ?_ | refine Iv_cp ?_ ?_ | apply And.intro))
set_option maxRecDepth 100000 in
set_option maxHeartbeats 4000000 in
theorem hc_gX6_readsAreRight (h00 : W 0) {n : Nat} {r0 : Nat} {x1 : Int32} {r2 : Nat} {M : ao_M} {ρ : ao_H} (hI : Iv W M0 ρ0 M ρ) (h_r0 : W r0) (h_r2 : W r2) : ∀ z, gX6_readsAreRight n r0 x1 r2 M ρ = some z → Iv W M0 ρ0 z.2 ρ := by
  unfold gX6_readsAreRight
  exact hc_fX6_readsAreRight h00 _ _ _ _ _ _ _ _ hI (by first | assumption | exact h00 | exact fun h => absurd h (by decide)) (by first | assumption | exact h00 | exact fun h => absurd h (by decide))
set_option maxRecDepth 100000 in
set_option maxHeartbeats 4000000 in
theorem hc_fX6_apply (h00 : W 0) : ∀ (n : Nat) (pc : Nat) (r0 : Nat) (x1 : Int32) (r2 : Nat) (x3 : Int32) (x4 : Int32) (M : ao_M) (ρ : ao_H), Iv W M0 ρ0 M ρ → W r0 → W r2 → ∀ z, fX6_apply n pc r0 x1 r2 x3 x4 M ρ = some z → Iv W M0 ρ0 z ρ := by
  intro n
  induction n with
  | zero => intros; exact absurd (by assumption) (by simp [fX6_apply.eq_1])
  | succ n ih =>
    intro pc r0 x1 r2 x3 x4 M ρ hI h_r0 h_r2
    rw [fX6_apply.eq_2]
    repeat' (with_reducible (first | exact f_none | refine f_ite (fun hc => ?_) (fun hc => ?_) | refine f_letM (Iv_u (by assumption) ?_) (fun M' hM' => ?_) | refine f_letI (fun v => ?_) | refine f_cs (fun x => ?_) (fun E => ?_) | refine f_letM (Iv_cp (by assumption) ?_) (fun M' hM' => ?_) | refine f_letM (by assumption) (fun M' hM' => ?_) | refine ih _ _ _ _ _ _ _ _ (by assumption) ?_ ?_ | refine ih _ _ _ _ _ _ _ _ ?_ ?_ ?_ | refine f_bind (ih _ _ _ _ _ _ _ _ (by assumption) ?_ ?_) (fun y hy => ?_)  | refine f_bindF (by assumption) ?_ (fun j hj => ?_) | refine f_bindZ (by assumption) (fun j hj hz => ?_) | refine f_some ?_ | assumption | exact okl (by assumption) | exact okw (by assumption) (by assumption) (by assumption) (by decide) | exact h00 | refine Iv_u (by assumption) ?_ | refine Iv_cp (by assumption) ?_ | refine Iv_r ?_ ?_ ?_ | refine Iv_new (by assumption) (by assumption) (by assumption) | refine Iv_th (by assumption) | refine Iv_u ?_ ?_ | refine Iv_cp ?_ ?_ | apply And.intro))
set_option maxRecDepth 100000 in
set_option maxHeartbeats 4000000 in
theorem hc_gX6_apply (h00 : W 0) {n : Nat} {r0 : Nat} {x1 : Int32} {r2 : Nat} {M : ao_M} {ρ : ao_H} (hI : Iv W M0 ρ0 M ρ) (h_r0 : W r0) (h_r2 : W r2) : ∀ z, gX6_apply n r0 x1 r2 M ρ = some z → Iv W M0 ρ0 z ρ := by
  unfold gX6_apply
  exact hc_fX6_apply h00 _ _ _ _ _ _ _ _ _ hI (by first | assumption | exact h00 | exact fun h => absurd h (by decide)) (by first | assumption | exact h00 | exact fun h => absurd h (by decide))
set_option maxRecDepth 100000 in
set_option maxHeartbeats 4000000 in
theorem hc_fGT (h00 : W 0) : ∀ (n : Nat) (e : Nat) (pc : Nat) (r0 : Nat) (r1 : Nat) (r2 : Nat) (x3 : Int32) (x4 : Int32) (x5 : Int32) (x6 : Int32) (s0 : Int32) (M : ao_M) (ρ : ao_H), Iv W M0 ρ0 M ρ → W r0 → W r1 → W r2 → ∀ z, fGT n e pc r0 r1 r2 x3 x4 x5 x6 s0 M ρ = some z → Iv W M0 ρ0 z.2 ρ := by
  intro n
  induction n with
  | zero => intros; exact absurd (by assumption) (by simp [fGT.eq_1])
  | succ n ih =>
    intro e pc r0 r1 r2 x3 x4 x5 x6 s0 M ρ hI h_r0 h_r1 h_r2
    rw [fGT.eq_2]
    repeat' (with_reducible (first | exact f_none | refine f_ite (fun hc => ?_) (fun hc => ?_) | refine f_letM (Iv_u (by assumption) ?_) (fun M' hM' => ?_) | refine f_letI (fun v => ?_) | refine f_cs (fun x => ?_) (fun E => ?_) | refine f_letM (Iv_cp (by assumption) ?_) (fun M' hM' => ?_) | refine f_letM (by assumption) (fun M' hM' => ?_) | refine ih _ _ _ _ _ _ _ _ _ _ _ _ (by assumption) ?_ ?_ ?_ | refine ih _ _ _ _ _ _ _ _ _ _ _ _ ?_ ?_ ?_ ?_ | refine f_bind (ih _ _ _ _ _ _ _ _ _ _ _ _ (by assumption) ?_ ?_ ?_) (fun y hy => ?_) | refine f_bind (hc_gX0_isAsItIs h00 (by assumption) ?_ ?_) (fun y hy => ?_) | refine f_bind (hc_gX6_readsAreRight h00 (by assumption) ?_ ?_) (fun y hy => ?_) | refine f_bind (hc_gX6_apply h00 (by assumption) ?_ ?_) (fun y hy => ?_)  | refine f_bindF (by assumption) ?_ (fun j hj => ?_) | refine f_bindZ (by assumption) (fun j hj hz => ?_) | refine f_some ?_ | assumption | exact okl (by assumption) | exact okw (by assumption) (by assumption) (by assumption) (by decide) | exact h00 | refine Iv_u (by assumption) ?_ | refine Iv_cp (by assumption) ?_ | refine Iv_r ?_ ?_ ?_ | refine Iv_new (by assumption) (by assumption) (by assumption) | refine Iv_th (by assumption) | refine Iv_u ?_ ?_ | refine Iv_cp ?_ ?_ | apply And.intro))
set_option maxRecDepth 100000 in
set_option maxHeartbeats 4000000 in
theorem hc_gX0_tryFrom (h00 : W 0) {n : Nat} {r0 : Nat} {r1 : Nat} {r2 : Nat} {x3 : Int32} {x4 : Int32} {M : ao_M} {ρ : ao_H} (hI : Iv W M0 ρ0 M ρ) (h_r0 : W r0) (h_r1 : W r1) (h_r2 : W r2) : ∀ z, gX0_tryFrom n r0 r1 r2 x3 x4 M ρ = some z → Iv W M0 ρ0 z.2 ρ := by
  unfold gX0_tryFrom
  exact hc_fGT h00 _ _ _ _ _ _ _ _ _ _ _ _ _ hI (by first | assumption | exact h00 | exact fun h => absurd h (by decide)) (by first | assumption | exact h00 | exact fun h => absurd h (by decide)) (by first | assumption | exact h00 | exact fun h => absurd h (by decide))
set_option maxRecDepth 100000 in
set_option maxHeartbeats 4000000 in
theorem hc_fX0_decide (h00 : W 0) : ∀ (n : Nat) (pc : Nat) (r0 : Nat) (r1 : Nat) (r2 : Nat) (x3 : Int32) (x4 : Int32) (M : ao_M) (ρ : ao_H), Iv W M0 ρ0 M ρ → W r0 → W r1 → W r2 → ∀ z, fX0_decide n pc r0 r1 r2 x3 x4 M ρ = some z → Iv W M0 ρ0 z.2 ρ := by
  intro n
  induction n with
  | zero => intros; exact absurd (by assumption) (by simp [fX0_decide.eq_1])
  | succ n ih =>
    intro pc r0 r1 r2 x3 x4 M ρ hI h_r0 h_r1 h_r2
    rw [fX0_decide.eq_2]
    repeat' (with_reducible (first | exact f_none | refine f_ite (fun hc => ?_) (fun hc => ?_) | refine f_letM (Iv_u (by assumption) ?_) (fun M' hM' => ?_) | refine f_letI (fun v => ?_) | refine f_cs (fun x => ?_) (fun E => ?_) | refine f_letM (Iv_cp (by assumption) ?_) (fun M' hM' => ?_) | refine f_letM (by assumption) (fun M' hM' => ?_) | refine ih _ _ _ _ _ _ _ _ (by assumption) ?_ ?_ ?_ | refine ih _ _ _ _ _ _ _ _ ?_ ?_ ?_ ?_ | refine f_bind (ih _ _ _ _ _ _ _ _ (by assumption) ?_ ?_ ?_) (fun y hy => ?_) | refine f_bind (hc_gX0_maskAhead h00 (by assumption) ?_) (fun y hy => ?_) | refine f_bind (hc_gX0_tryFrom h00 (by assumption) ?_ ?_ ?_) (fun y hy => ?_)  | refine f_bindF (by assumption) ?_ (fun j hj => ?_) | refine f_bindZ (by assumption) (fun j hj hz => ?_) | refine f_some ?_ | assumption | exact okl (by assumption) | exact okw (by assumption) (by assumption) (by assumption) (by decide) | exact h00 | refine Iv_u (by assumption) ?_ | refine Iv_cp (by assumption) ?_ | refine Iv_r ?_ ?_ ?_ | refine Iv_new (by assumption) (by assumption) (by assumption) | refine Iv_th (by assumption) | refine Iv_u ?_ ?_ | refine Iv_cp ?_ ?_ | apply And.intro))
set_option maxRecDepth 100000 in
set_option maxHeartbeats 4000000 in
theorem hc_gX0_decide (h00 : W 0) {n : Nat} {r0 : Nat} {r1 : Nat} {r2 : Nat} {M : ao_M} {ρ : ao_H} (hI : Iv W M0 ρ0 M ρ) (h_r0 : W r0) (h_r1 : W r1) (h_r2 : W r2) : ∀ z, gX0_decide n r0 r1 r2 M ρ = some z → Iv W M0 ρ0 z.2 ρ := by
  unfold gX0_decide
  exact hc_fX0_decide h00 _ _ _ _ _ _ _ _ _ hI (by first | assumption | exact h00 | exact fun h => absurd h (by decide)) (by first | assumption | exact h00 | exact fun h => absurd h (by decide)) (by first | assumption | exact h00 | exact fun h => absurd h (by decide))
set_option maxRecDepth 100000 in
set_option maxHeartbeats 4000000 in
theorem hc_gX10_judge (h00 : W 0) {n : Nat} {r0 : Nat} {M : ao_M} {ρ : ao_H} (hI : Iv W M0 ρ0 M ρ) (h_r0 : W r0) : ∀ z, gX10_judge n r0 M ρ = some z → Iv W M0 ρ0 z.2 ρ := by
  unfold gX10_judge
  repeat' (with_reducible (first | exact f_none | refine f_ite (fun hc => ?_) (fun hc => ?_) | refine f_letM (Iv_u (by assumption) ?_) (fun M' hM' => ?_) | refine f_letI (fun v => ?_) | refine f_cs (fun x => ?_) (fun E => ?_) | refine f_letM (Iv_cp (by assumption) ?_) (fun M' hM' => ?_) | refine f_letM (by assumption) (fun M' hM' => ?_) | refine f_bind (hc_gX0_decide h00 (by assumption) ?_ ?_ ?_) (fun y hy => ?_)  | refine f_bindF (by assumption) ?_ (fun j hj => ?_) | refine f_bindZ (by assumption) (fun j hj hz => ?_) | refine f_some ?_ | assumption | exact okl (by assumption) | exact okw (by assumption) (by assumption) (by assumption) (by decide) | exact h00 | refine Iv_u (by assumption) ?_ | refine Iv_cp (by assumption) ?_ | refine Iv_r ?_ ?_ ?_ | refine Iv_new (by assumption) (by assumption) (by assumption) | refine Iv_th (by assumption) | refine Iv_u ?_ ?_ | refine Iv_cp ?_ ?_ | apply And.intro))
set_option maxRecDepth 100000 in
set_option maxHeartbeats 4000000 in
theorem hc_fX10_order (h00 : W 0) : ∀ (n : Nat) (pc : Nat) (r0 : Nat) (x1 : Int32) (M : ao_M) (ρ : ao_H), Iv W M0 ρ0 M ρ → W r0 → ∀ z, fX10_order n pc r0 x1 M ρ = some z → Iv W M0 ρ0 z.2.1 z.2.2 := by
  intro n
  induction n with
  | zero => intros; exact absurd (by assumption) (by simp [fX10_order.eq_1])
  | succ n ih =>
    intro pc r0 x1 M ρ hI h_r0
    rw [fX10_order.eq_2]
    repeat' (with_reducible (first | exact f_none | refine f_ite (fun hc => ?_) (fun hc => ?_) | refine f_letM (Iv_u (by assumption) ?_) (fun M' hM' => ?_) | refine f_letI (fun v => ?_) | refine f_cs (fun x => ?_) (fun E => ?_) | refine f_letM (Iv_cp (by assumption) ?_) (fun M' hM' => ?_) | refine f_letM (by assumption) (fun M' hM' => ?_) | refine ih _ _ _ _ _ (by assumption) ?_ | refine ih _ _ _ _ _ ?_ ?_ | refine f_bind (ih _ _ _ _ _ (by assumption) ?_) (fun y hy => ?_)  | refine f_bindF (by assumption) ?_ (fun j hj => ?_) | refine f_bindZ (by assumption) (fun j hj hz => ?_) | refine f_some ?_ | assumption | exact okl (by assumption) | exact okw (by assumption) (by assumption) (by assumption) (by decide) | exact h00 | refine Iv_u (by assumption) ?_ | refine Iv_cp (by assumption) ?_ | refine Iv_r ?_ ?_ ?_ | refine Iv_new (by assumption) (by assumption) (by assumption) | refine Iv_th (by assumption) | refine Iv_u ?_ ?_ | refine Iv_cp ?_ ?_ | apply And.intro))
set_option maxRecDepth 100000 in
set_option maxHeartbeats 4000000 in
theorem hc_gX10_order (h00 : W 0) {n : Nat} {r0 : Nat} {x1 : Int32} {M : ao_M} {ρ : ao_H} (hI : Iv W M0 ρ0 M ρ) (h_r0 : W r0) : ∀ z, gX10_order n r0 x1 M ρ = some z → Iv W M0 ρ0 z.2.1 z.2.2 := by
  unfold gX10_order
  exact hc_fX10_order h00 _ _ _ _ _ _ hI (by first | assumption | exact h00 | exact fun h => absurd h (by decide))
set_option maxRecDepth 100000 in
set_option maxHeartbeats 4000000 in
theorem hc_fL_order (h00 : W 0) : ∀ (n : Nat) (pc : Nat) (r0 : Nat) (x1 : Int32) (r2 : Nat) (s0 : Int32) (s1 : Int32) (q2 : Nat) (M : ao_M) (ρ : ao_H), Iv W M0 ρ0 M ρ → W r0 → W r2 → W q2 → ∀ z, fL_order n pc r0 x1 r2 s0 s1 q2 M ρ = some z → Iv W M0 ρ0 z.2.1 z.2.2 := by
  intro n
  induction n with
  | zero => intros; exact absurd (by assumption) (by simp [fL_order.eq_1])
  | succ n ih =>
    intro pc r0 x1 r2 s0 s1 q2 M ρ hI h_r0 h_r2 h_q2
    rw [fL_order.eq_2]
    repeat' (with_reducible (first | exact f_none | refine f_ite (fun hc => ?_) (fun hc => ?_) | refine f_letM (Iv_u (by assumption) ?_) (fun M' hM' => ?_) | refine f_letI (fun v => ?_) | refine f_cs (fun x => ?_) (fun E => ?_) | refine f_letM (Iv_cp (by assumption) ?_) (fun M' hM' => ?_) | refine f_letM (by assumption) (fun M' hM' => ?_) | refine ih _ _ _ _ _ _ _ _ _ (by assumption) ?_ ?_ ?_ | refine ih _ _ _ _ _ _ _ _ _ ?_ ?_ ?_ ?_ | refine f_bind (ih _ _ _ _ _ _ _ _ _ (by assumption) ?_ ?_ ?_) (fun y hy => ?_) | refine f_bind (hc_gX10_order h00 (by assumption) ?_) (fun y hy => ?_)  | refine f_bindF (by assumption) ?_ (fun j hj => ?_) | refine f_bindZ (by assumption) (fun j hj hz => ?_) | refine f_some ?_ | assumption | exact okl (by assumption) | exact okw (by assumption) (by assumption) (by assumption) (by decide) | exact h00 | refine Iv_u (by assumption) ?_ | refine Iv_cp (by assumption) ?_ | refine Iv_r ?_ ?_ ?_ | refine Iv_new (by assumption) (by assumption) (by assumption) | refine Iv_th (by assumption) | refine Iv_u ?_ ?_ | refine Iv_cp ?_ ?_ | apply And.intro))
set_option maxRecDepth 100000 in
set_option maxHeartbeats 4000000 in
theorem hc_gL_order (h00 : W 0) {n : Nat} {r0 : Nat} {x1 : Int32} {r2 : Nat} {M : ao_M} {ρ : ao_H} (hI : Iv W M0 ρ0 M ρ) (h_r0 : W r0) (h_r2 : W r2) : ∀ z, gL_order n r0 x1 r2 M ρ = some z → Iv W M0 ρ0 z.2.1 z.2.2 := by
  unfold gL_order
  exact hc_fL_order h00 _ _ _ _ _ _ _ _ _ _ hI (by first | assumption | exact h00 | exact fun h => absurd h (by decide)) (by first | assumption | exact h00 | exact fun h => absurd h (by decide)) (by first | assumption | exact h00 | exact fun h => absurd h (by decide))
set_option maxRecDepth 100000 in
set_option maxHeartbeats 4000000 in
theorem hc_gX6_tellOf (h00 : W 0) {r0 : Nat} {x1 : Int32} {x2 : Int32} {M : ao_M} {ρ : ao_H} (hI : Iv W M0 ρ0 M ρ) (h_r0 : W r0) : ∀ z, gX6_tellOf r0 x1 x2 M ρ = some z → Iv W M0 ρ0 z.2 ρ := by
  unfold gX6_tellOf
  repeat' (with_reducible (first | exact f_none | refine f_ite (fun hc => ?_) (fun hc => ?_) | refine f_letM (Iv_u (by assumption) ?_) (fun M' hM' => ?_) | refine f_letI (fun v => ?_) | refine f_cs (fun x => ?_) (fun E => ?_) | refine f_letM (Iv_cp (by assumption) ?_) (fun M' hM' => ?_) | refine f_letM (by assumption) (fun M' hM' => ?_)  | refine f_bindF (by assumption) ?_ (fun j hj => ?_) | refine f_bindZ (by assumption) (fun j hj hz => ?_) | refine f_some ?_ | assumption | exact okl (by assumption) | exact okw (by assumption) (by assumption) (by assumption) (by decide) | exact h00 | refine Iv_u (by assumption) ?_ | refine Iv_cp (by assumption) ?_ | refine Iv_r ?_ ?_ ?_ | refine Iv_new (by assumption) (by assumption) (by assumption) | refine Iv_th (by assumption) | refine Iv_u ?_ ?_ | refine Iv_cp ?_ ?_ | apply And.intro))
set_option maxRecDepth 100000 in
set_option maxHeartbeats 4000000 in
theorem hc_fX10_record (h00 : W 0) : ∀ (n : Nat) (pc : Nat) (r0 : Nat) (x1 : Int32) (x2 : Int32) (M : ao_M) (ρ : ao_H), Iv W M0 ρ0 M ρ → W r0 → ∀ z, fX10_record n pc r0 x1 x2 M ρ = some z → Iv W M0 ρ0 z.2.1 z.2.2 := by
  intro n
  induction n with
  | zero => intros; exact absurd (by assumption) (by simp [fX10_record.eq_1])
  | succ n ih =>
    intro pc r0 x1 x2 M ρ hI h_r0
    rw [fX10_record.eq_2]
    repeat' (with_reducible (first | exact f_none | refine f_ite (fun hc => ?_) (fun hc => ?_) | refine f_letM (Iv_u (by assumption) ?_) (fun M' hM' => ?_) | refine f_letI (fun v => ?_) | refine f_cs (fun x => ?_) (fun E => ?_) | refine f_letM (Iv_cp (by assumption) ?_) (fun M' hM' => ?_) | refine f_letM (by assumption) (fun M' hM' => ?_) | refine ih _ _ _ _ _ _ (by assumption) ?_ | refine ih _ _ _ _ _ _ ?_ ?_ | refine f_bind (ih _ _ _ _ _ _ (by assumption) ?_) (fun y hy => ?_) | refine f_bind (hc_gX6_tellOf h00 (by assumption) ?_) (fun y hy => ?_)  | refine f_bindF (by assumption) ?_ (fun j hj => ?_) | refine f_bindZ (by assumption) (fun j hj hz => ?_) | refine f_some ?_ | assumption | exact okl (by assumption) | exact okw (by assumption) (by assumption) (by assumption) (by decide) | exact h00 | refine Iv_u (by assumption) ?_ | refine Iv_cp (by assumption) ?_ | refine Iv_r ?_ ?_ ?_ | refine Iv_new (by assumption) (by assumption) (by assumption) | refine Iv_th (by assumption) | refine Iv_u ?_ ?_ | refine Iv_cp ?_ ?_ | apply And.intro))
set_option maxRecDepth 100000 in
set_option maxHeartbeats 4000000 in
theorem hc_gX10_record (h00 : W 0) {n : Nat} {r0 : Nat} {x1 : Int32} {x2 : Int32} {M : ao_M} {ρ : ao_H} (hI : Iv W M0 ρ0 M ρ) (h_r0 : W r0) : ∀ z, gX10_record n r0 x1 x2 M ρ = some z → Iv W M0 ρ0 z.2.1 z.2.2 := by
  unfold gX10_record
  exact hc_fX10_record h00 _ _ _ _ _ _ _ hI (by first | assumption | exact h00 | exact fun h => absurd h (by decide))
set_option maxRecDepth 100000 in
set_option maxHeartbeats 4000000 in
theorem hc_fL_record (h00 : W 0) : ∀ (n : Nat) (pc : Nat) (r0 : Nat) (x1 : Int32) (x2 : Int32) (r3 : Nat) (s0 : Int32) (s1 : Int32) (q2 : Nat) (M : ao_M) (ρ : ao_H), Iv W M0 ρ0 M ρ → W r0 → W r3 → W q2 → ∀ z, fL_record n pc r0 x1 x2 r3 s0 s1 q2 M ρ = some z → Iv W M0 ρ0 z.2.1 z.2.2 := by
  intro n
  induction n with
  | zero => intros; exact absurd (by assumption) (by simp [fL_record.eq_1])
  | succ n ih =>
    intro pc r0 x1 x2 r3 s0 s1 q2 M ρ hI h_r0 h_r3 h_q2
    rw [fL_record.eq_2]
    repeat' (with_reducible (first | exact f_none | refine f_ite (fun hc => ?_) (fun hc => ?_) | refine f_letM (Iv_u (by assumption) ?_) (fun M' hM' => ?_) | refine f_letI (fun v => ?_) | refine f_cs (fun x => ?_) (fun E => ?_) | refine f_letM (Iv_cp (by assumption) ?_) (fun M' hM' => ?_) | refine f_letM (by assumption) (fun M' hM' => ?_) | refine ih _ _ _ _ _ _ _ _ _ _ (by assumption) ?_ ?_ ?_ | refine ih _ _ _ _ _ _ _ _ _ _ ?_ ?_ ?_ ?_ | refine f_bind (ih _ _ _ _ _ _ _ _ _ _ (by assumption) ?_ ?_ ?_) (fun y hy => ?_) | refine f_bind (hc_gX10_record h00 (by assumption) ?_) (fun y hy => ?_)  | refine f_bindF (by assumption) ?_ (fun j hj => ?_) | refine f_bindZ (by assumption) (fun j hj hz => ?_) | refine f_some ?_ | assumption | exact okl (by assumption) | exact okw (by assumption) (by assumption) (by assumption) (by decide) | exact h00 | refine Iv_u (by assumption) ?_ | refine Iv_cp (by assumption) ?_ | refine Iv_r ?_ ?_ ?_ | refine Iv_new (by assumption) (by assumption) (by assumption) | refine Iv_th (by assumption) | refine Iv_u ?_ ?_ | refine Iv_cp ?_ ?_ | apply And.intro))
set_option maxRecDepth 100000 in
set_option maxHeartbeats 4000000 in
theorem hc_gL_record (h00 : W 0) {n : Nat} {r0 : Nat} {x1 : Int32} {x2 : Int32} {r3 : Nat} {M : ao_M} {ρ : ao_H} (hI : Iv W M0 ρ0 M ρ) (h_r0 : W r0) (h_r3 : W r3) : ∀ z, gL_record n r0 x1 x2 r3 M ρ = some z → Iv W M0 ρ0 z.2.1 z.2.2 := by
  unfold gL_record
  exact hc_fL_record h00 _ _ _ _ _ _ _ _ _ _ _ hI (by first | assumption | exact h00 | exact fun h => absurd h (by decide)) (by first | assumption | exact h00 | exact fun h => absurd h (by decide)) (by first | assumption | exact h00 | exact fun h => absurd h (by decide))
set_option maxRecDepth 100000 in
set_option maxHeartbeats 4000000 in
theorem hc_fX5_howManyTaken (h00 : W 0) : ∀ (n : Nat) (pc : Nat) (r0 : Nat) (x1 : Int32) (x2 : Int32) (M : ao_M) (ρ : ao_H), Iv W M0 ρ0 M ρ → W r0 → ∀ z, fX5_howManyTaken n pc r0 x1 x2 M ρ = some z → Iv W M0 ρ0 z.2 ρ := by
  intro n
  induction n with
  | zero => intros; exact absurd (by assumption) (by simp [fX5_howManyTaken.eq_1])
  | succ n ih =>
    intro pc r0 x1 x2 M ρ hI h_r0
    rw [fX5_howManyTaken.eq_2]
    repeat' (with_reducible (first | exact f_none | refine f_ite (fun hc => ?_) (fun hc => ?_) | refine f_letM (Iv_u (by assumption) ?_) (fun M' hM' => ?_) | refine f_letI (fun v => ?_) | refine f_cs (fun x => ?_) (fun E => ?_) | refine f_letM (Iv_cp (by assumption) ?_) (fun M' hM' => ?_) | refine f_letM (by assumption) (fun M' hM' => ?_) | refine ih _ _ _ _ _ _ (by assumption) ?_ | refine ih _ _ _ _ _ _ ?_ ?_ | refine f_bind (ih _ _ _ _ _ _ (by assumption) ?_) (fun y hy => ?_)  | refine f_bindF (by assumption) ?_ (fun j hj => ?_) | refine f_bindZ (by assumption) (fun j hj hz => ?_) | refine f_some ?_ | assumption | exact okl (by assumption) | exact okw (by assumption) (by assumption) (by assumption) (by decide) | exact h00 | refine Iv_u (by assumption) ?_ | refine Iv_cp (by assumption) ?_ | refine Iv_r ?_ ?_ ?_ | refine Iv_new (by assumption) (by assumption) (by assumption) | refine Iv_th (by assumption) | refine Iv_u ?_ ?_ | refine Iv_cp ?_ ?_ | apply And.intro))
set_option maxRecDepth 100000 in
set_option maxHeartbeats 4000000 in
theorem hc_gX5_howManyTaken (h00 : W 0) {n : Nat} {r0 : Nat} {M : ao_M} {ρ : ao_H} (hI : Iv W M0 ρ0 M ρ) (h_r0 : W r0) : ∀ z, gX5_howManyTaken n r0 M ρ = some z → Iv W M0 ρ0 z.2 ρ := by
  unfold gX5_howManyTaken
  exact hc_fX5_howManyTaken h00 _ _ _ _ _ _ _ hI (by first | assumption | exact h00 | exact fun h => absurd h (by decide))
set_option maxRecDepth 100000 in
set_option maxHeartbeats 4000000 in
theorem hc_gX2_tellOf (h00 : W 0) {n : Nat} {r0 : Nat} {x1 : Int32} {M : ao_M} {ρ : ao_H} (hI : Iv W M0 ρ0 M ρ) (h_r0 : W r0) : ∀ z, gX2_tellOf n r0 x1 M ρ = some z → Iv W M0 ρ0 z.2 ρ := by
  unfold gX2_tellOf
  repeat' (with_reducible (first | exact f_none | refine f_ite (fun hc => ?_) (fun hc => ?_) | refine f_letM (Iv_u (by assumption) ?_) (fun M' hM' => ?_) | refine f_letI (fun v => ?_) | refine f_cs (fun x => ?_) (fun E => ?_) | refine f_letM (Iv_cp (by assumption) ?_) (fun M' hM' => ?_) | refine f_letM (by assumption) (fun M' hM' => ?_) | refine f_bind (hc_gX2_howManyAre h00 (by assumption) ?_) (fun y hy => ?_) | refine f_bind (hc_gX5_howManyTaken h00 (by assumption) ?_) (fun y hy => ?_)  | refine f_bindF (by assumption) ?_ (fun j hj => ?_) | refine f_bindZ (by assumption) (fun j hj hz => ?_) | refine f_some ?_ | assumption | exact okl (by assumption) | exact okw (by assumption) (by assumption) (by assumption) (by decide) | exact h00 | refine Iv_u (by assumption) ?_ | refine Iv_cp (by assumption) ?_ | refine Iv_r ?_ ?_ ?_ | refine Iv_new (by assumption) (by assumption) (by assumption) | refine Iv_th (by assumption) | refine Iv_u ?_ ?_ | refine Iv_cp ?_ ?_ | apply And.intro))
set_option maxRecDepth 100000 in
set_option maxHeartbeats 4000000 in
theorem hc_fX10_count (h00 : W 0) : ∀ (n : Nat) (pc : Nat) (r0 : Nat) (x1 : Int32) (M : ao_M) (ρ : ao_H), Iv W M0 ρ0 M ρ → W r0 → ∀ z, fX10_count n pc r0 x1 M ρ = some z → Iv W M0 ρ0 z.2.1 z.2.2 := by
  intro n
  induction n with
  | zero => intros; exact absurd (by assumption) (by simp [fX10_count.eq_1])
  | succ n ih =>
    intro pc r0 x1 M ρ hI h_r0
    rw [fX10_count.eq_2]
    repeat' (with_reducible (first | exact f_none | refine f_ite (fun hc => ?_) (fun hc => ?_) | refine f_letM (Iv_u (by assumption) ?_) (fun M' hM' => ?_) | refine f_letI (fun v => ?_) | refine f_cs (fun x => ?_) (fun E => ?_) | refine f_letM (Iv_cp (by assumption) ?_) (fun M' hM' => ?_) | refine f_letM (by assumption) (fun M' hM' => ?_) | refine ih _ _ _ _ _ (by assumption) ?_ | refine ih _ _ _ _ _ ?_ ?_ | refine f_bind (ih _ _ _ _ _ (by assumption) ?_) (fun y hy => ?_) | refine f_bind (hc_gX2_tellOf h00 (by assumption) ?_) (fun y hy => ?_)  | refine f_bindF (by assumption) ?_ (fun j hj => ?_) | refine f_bindZ (by assumption) (fun j hj hz => ?_) | refine f_some ?_ | assumption | exact okl (by assumption) | exact okw (by assumption) (by assumption) (by assumption) (by decide) | exact h00 | refine Iv_u (by assumption) ?_ | refine Iv_cp (by assumption) ?_ | refine Iv_r ?_ ?_ ?_ | refine Iv_new (by assumption) (by assumption) (by assumption) | refine Iv_th (by assumption) | refine Iv_u ?_ ?_ | refine Iv_cp ?_ ?_ | apply And.intro))
set_option maxRecDepth 100000 in
set_option maxHeartbeats 4000000 in
theorem hc_gX10_count (h00 : W 0) {n : Nat} {r0 : Nat} {x1 : Int32} {M : ao_M} {ρ : ao_H} (hI : Iv W M0 ρ0 M ρ) (h_r0 : W r0) : ∀ z, gX10_count n r0 x1 M ρ = some z → Iv W M0 ρ0 z.2.1 z.2.2 := by
  unfold gX10_count
  exact hc_fX10_count h00 _ _ _ _ _ _ hI (by first | assumption | exact h00 | exact fun h => absurd h (by decide))
set_option maxRecDepth 100000 in
set_option maxHeartbeats 4000000 in
theorem hc_fL_count (h00 : W 0) : ∀ (n : Nat) (pc : Nat) (r0 : Nat) (x1 : Int32) (r2 : Nat) (s0 : Int32) (s1 : Int32) (q2 : Nat) (M : ao_M) (ρ : ao_H), Iv W M0 ρ0 M ρ → W r0 → W r2 → W q2 → ∀ z, fL_count n pc r0 x1 r2 s0 s1 q2 M ρ = some z → Iv W M0 ρ0 z.2.1 z.2.2 := by
  intro n
  induction n with
  | zero => intros; exact absurd (by assumption) (by simp [fL_count.eq_1])
  | succ n ih =>
    intro pc r0 x1 r2 s0 s1 q2 M ρ hI h_r0 h_r2 h_q2
    rw [fL_count.eq_2]
    repeat' (with_reducible (first | exact f_none | refine f_ite (fun hc => ?_) (fun hc => ?_) | refine f_letM (Iv_u (by assumption) ?_) (fun M' hM' => ?_) | refine f_letI (fun v => ?_) | refine f_cs (fun x => ?_) (fun E => ?_) | refine f_letM (Iv_cp (by assumption) ?_) (fun M' hM' => ?_) | refine f_letM (by assumption) (fun M' hM' => ?_) | refine ih _ _ _ _ _ _ _ _ _ (by assumption) ?_ ?_ ?_ | refine ih _ _ _ _ _ _ _ _ _ ?_ ?_ ?_ ?_ | refine f_bind (ih _ _ _ _ _ _ _ _ _ (by assumption) ?_ ?_ ?_) (fun y hy => ?_) | refine f_bind (hc_gX10_count h00 (by assumption) ?_) (fun y hy => ?_)  | refine f_bindF (by assumption) ?_ (fun j hj => ?_) | refine f_bindZ (by assumption) (fun j hj hz => ?_) | refine f_some ?_ | assumption | exact okl (by assumption) | exact okw (by assumption) (by assumption) (by assumption) (by decide) | exact h00 | refine Iv_u (by assumption) ?_ | refine Iv_cp (by assumption) ?_ | refine Iv_r ?_ ?_ ?_ | refine Iv_new (by assumption) (by assumption) (by assumption) | refine Iv_th (by assumption) | refine Iv_u ?_ ?_ | refine Iv_cp ?_ ?_ | apply And.intro))
set_option maxRecDepth 100000 in
set_option maxHeartbeats 4000000 in
theorem hc_gL_count (h00 : W 0) {n : Nat} {r0 : Nat} {x1 : Int32} {r2 : Nat} {M : ao_M} {ρ : ao_H} (hI : Iv W M0 ρ0 M ρ) (h_r0 : W r0) (h_r2 : W r2) : ∀ z, gL_count n r0 x1 r2 M ρ = some z → Iv W M0 ρ0 z.2.1 z.2.2 := by
  unfold gL_count
  exact hc_fL_count h00 _ _ _ _ _ _ _ _ _ _ hI (by first | assumption | exact h00 | exact fun h => absurd h (by decide)) (by first | assumption | exact h00 | exact fun h => absurd h (by decide)) (by first | assumption | exact h00 | exact fun h => absurd h (by decide))
end Fr
