set_option linter.unusedSimpArgs false
set_option linter.unusedVariables false
section Fr
variable {W : Nat → Prop} {M0 : ao_M} {ρ0 : ao_H}
set_option maxRecDepth 100000 in
set_option maxHeartbeats 4000000 in
theorem hd_gX12_fails (h00 : okr W ρ0 0) {r0 : Nat} {x1 : Int32} {M : ao_M} {ρ : ao_H} (hI : Iv W M0 ρ0 M ρ) (h_r0 : okr W ρ0 r0) : ∀ z, gX12_fails r0 x1 M ρ = some z → Iv W M0 ρ0 z.2 ρ := by
  unfold gX12_fails
  repeat' (with_reducible (first | exact f_none | refine f_ite (fun hc => ?_) (fun hc => ?_) | refine f_letM (Iv_u (by assumption) ?_) (fun M' hM' => ?_) | refine f_letI (fun v => ?_) | refine f_cs (fun x => ?_) (fun E => ?_) | refine f_letM (Iv_cp (by assumption) ?_) (fun M' hM' => ?_) | refine f_letM (by assumption) (fun M' hM' => ?_)  | refine f_bindF (by assumption) ?_ (fun j hj => ?_) | refine f_bindZ (by assumption) (fun j hj hz => ?_) | refine f_some ?_ | assumption | exact okl (by assumption) | exact okw (by assumption) (by assumption) (by assumption) (by decide) | exact h00 | refine Iv_u (by assumption) ?_ | refine Iv_cp (by assumption) ?_ | refine Iv_r ?_ ?_ ?_ | refine Iv_new (by assumption) (by assumption) (by assumption) | refine Iv_th (by assumption) | refine Iv_u ?_ ?_ | refine Iv_cp ?_ ?_ | apply And.intro))
set_option maxRecDepth 100000 in
set_option maxHeartbeats 4000000 in
theorem hd_fX12_four (h00 : okr W ρ0 0) : ∀ (n : Nat) (pc : Nat) (r0 : Nat) (x1 : Int32) (x2 : Int32) (M : ao_M) (ρ : ao_H), Iv W M0 ρ0 M ρ → okr W ρ0 r0 → ∀ z, fX12_four n pc r0 x1 x2 M ρ = some z → Iv W M0 ρ0 z ρ := by
  intro n
  induction n with
  | zero => intros; exact absurd (by assumption) (by simp [fX12_four.eq_1])
  | succ n ih =>
    intro pc r0 x1 x2 M ρ hI h_r0
    rw [fX12_four.eq_2]
    repeat' (with_reducible (first | exact f_none | refine f_ite (fun hc => ?_) (fun hc => ?_) | refine f_letM (Iv_u (by assumption) ?_) (fun M' hM' => ?_) | refine f_letI (fun v => ?_) | refine f_cs (fun x => ?_) (fun E => ?_) | refine f_letM (Iv_cp (by assumption) ?_) (fun M' hM' => ?_) | refine f_letM (by assumption) (fun M' hM' => ?_) | refine ih _ _ _ _ _ _ (by assumption) ?_ | refine ih _ _ _ _ _ _ ?_ ?_ | refine f_bind (ih _ _ _ _ _ _ (by assumption) ?_) (fun y hy => ?_)  | refine f_bindF (by assumption) ?_ (fun j hj => ?_) | refine f_bindZ (by assumption) (fun j hj hz => ?_) | refine f_some ?_ | assumption | exact okl (by assumption) | exact okw (by assumption) (by assumption) (by assumption) (by decide) | exact h00 | refine Iv_u (by assumption) ?_ | refine Iv_cp (by assumption) ?_ | refine Iv_r ?_ ?_ ?_ | refine Iv_new (by assumption) (by assumption) (by assumption) | refine Iv_th (by assumption) | refine Iv_u ?_ ?_ | refine Iv_cp ?_ ?_ | apply And.intro))
set_option maxRecDepth 100000 in
set_option maxHeartbeats 4000000 in
theorem hd_gX12_four (h00 : okr W ρ0 0) {n : Nat} {r0 : Nat} {x1 : Int32} {M : ao_M} {ρ : ao_H} (hI : Iv W M0 ρ0 M ρ) (h_r0 : okr W ρ0 r0) : ∀ z, gX12_four n r0 x1 M ρ = some z → Iv W M0 ρ0 z ρ := by
  unfold gX12_four
  exact hd_fX12_four h00 _ _ _ _ _ _ _ hI (by first | assumption | exact h00 | exact fun h => absurd h (by decide))
set_option maxRecDepth 100000 in
set_option maxHeartbeats 4000000 in
theorem hd_fX12_feed (h00 : okr W ρ0 0) : ∀ (n : Nat) (pc : Nat) (r0 : Nat) (x1 : Int32) (x2 : Int32) (x3 : Int32) (x4 : Int32) (x5 : Int32) (s0 : Int32) (q1 : Nat) (M : ao_M) (ρ : ao_H), Iv W M0 ρ0 M ρ → okr W ρ0 r0 → okr W ρ0 q1 → ∀ z, fX12_feed n pc r0 x1 x2 x3 x4 x5 s0 q1 M ρ = some z → Iv W M0 ρ0 z.2 ρ := by
  intro n
  induction n with
  | zero => intros; exact absurd (by assumption) (by simp [fX12_feed.eq_1])
  | succ n ih =>
    intro pc r0 x1 x2 x3 x4 x5 s0 q1 M ρ hI h_r0 h_q1
    rw [fX12_feed.eq_2]
    repeat' (with_reducible (first | exact f_none | refine f_ite (fun hc => ?_) (fun hc => ?_) | refine f_letM (Iv_u (by assumption) ?_) (fun M' hM' => ?_) | refine f_letI (fun v => ?_) | refine f_cs (fun x => ?_) (fun E => ?_) | refine f_letM (Iv_cp (by assumption) ?_) (fun M' hM' => ?_) | refine f_letM (by assumption) (fun M' hM' => ?_) | refine ih _ _ _ _ _ _ _ _ _ _ _ (by assumption) ?_ ?_ | refine ih _ _ _ _ _ _ _ _ _ _ _ ?_ ?_ ?_ | refine f_bind (ih _ _ _ _ _ _ _ _ _ _ _ (by assumption) ?_ ?_) (fun y hy => ?_) | refine f_bind (hd_gX12_fails h00 (by assumption) ?_) (fun y hy => ?_) | refine f_bind (hd_gX12_four h00 (by assumption) ?_) (fun y hy => ?_)  | refine f_bindF (by assumption) ?_ (fun j hj => ?_) | refine f_bindZ (by assumption) (fun j hj hz => ?_) | refine f_some ?_ | assumption | exact okl (by assumption) | exact okw (by assumption) (by assumption) (by assumption) (by decide) | exact h00 | refine Iv_u (by assumption) ?_ | refine Iv_cp (by assumption) ?_ | refine Iv_r ?_ ?_ ?_ | refine Iv_new (by assumption) (by assumption) (by assumption) | refine Iv_th (by assumption) | refine Iv_u ?_ ?_ | refine Iv_cp ?_ ?_ | apply And.intro))
set_option maxRecDepth 100000 in
set_option maxHeartbeats 4000000 in
theorem hd_gX12_feed (h00 : okr W ρ0 0) {n : Nat} {r0 : Nat} {x1 : Int32} {x2 : Int32} {x3 : Int32} {x4 : Int32} {x5 : Int32} {M : ao_M} {ρ : ao_H} (hI : Iv W M0 ρ0 M ρ) (h_r0 : okr W ρ0 r0) : ∀ z, gX12_feed n r0 x1 x2 x3 x4 x5 M ρ = some z → Iv W M0 ρ0 z.2 ρ := by
  unfold gX12_feed
  exact hd_fX12_feed h00 _ _ _ _ _ _ _ _ _ _ _ _ hI (by first | assumption | exact h00 | exact fun h => absurd h (by decide)) (by first | assumption | exact h00 | exact fun h => absurd h (by decide))
set_option maxRecDepth 100000 in
set_option maxHeartbeats 4000000 in
theorem hd_fX12_end (h00 : okr W ρ0 0) : ∀ (n : Nat) (pc : Nat) (r0 : Nat) (x1 : Int32) (q0 : Nat) (s0 : Int32) (q1 : Nat) (M : ao_M) (ρ : ao_H), Iv W M0 ρ0 M ρ → okr W ρ0 r0 → okr W ρ0 q0 → okr W ρ0 q1 → ∀ z, fX12_end n pc r0 x1 q0 s0 q1 M ρ = some z → Iv W M0 ρ0 z.2 ρ := by
  intro n
  induction n with
  | zero => intros; exact absurd (by assumption) (by simp [fX12_end.eq_1])
  | succ n ih =>
    intro pc r0 x1 q0 s0 q1 M ρ hI h_r0 h_q0 h_q1
    rw [fX12_end.eq_2]
    repeat' (with_reducible (first | exact f_none | refine f_ite (fun hc => ?_) (fun hc => ?_) | refine f_letM (Iv_u (by assumption) ?_) (fun M' hM' => ?_) | refine f_letI (fun v => ?_) | refine f_cs (fun x => ?_) (fun E => ?_) | refine f_letM (Iv_cp (by assumption) ?_) (fun M' hM' => ?_) | refine f_letM (by assumption) (fun M' hM' => ?_) | refine ih _ _ _ _ _ _ _ _ (by assumption) ?_ ?_ ?_ | refine ih _ _ _ _ _ _ _ _ ?_ ?_ ?_ ?_ | refine f_bind (ih _ _ _ _ _ _ _ _ (by assumption) ?_ ?_ ?_) (fun y hy => ?_) | refine f_bind (hd_gX12_fails h00 (by assumption) ?_) (fun y hy => ?_)  | refine f_bindF (by assumption) ?_ (fun j hj => ?_) | refine f_bindZ (by assumption) (fun j hj hz => ?_) | refine f_some ?_ | assumption | exact okl (by assumption) | exact okw (by assumption) (by assumption) (by assumption) (by decide) | exact h00 | refine Iv_u (by assumption) ?_ | refine Iv_cp (by assumption) ?_ | refine Iv_r ?_ ?_ ?_ | refine Iv_new (by assumption) (by assumption) (by assumption) | refine Iv_th (by assumption) | refine Iv_u ?_ ?_ | refine Iv_cp ?_ ?_ | apply And.intro))
set_option maxRecDepth 100000 in
set_option maxHeartbeats 4000000 in
theorem hd_gX12_end (h00 : okr W ρ0 0) {n : Nat} {r0 : Nat} {x1 : Int32} {M : ao_M} {ρ : ao_H} (hI : Iv W M0 ρ0 M ρ) (h_r0 : okr W ρ0 r0) : ∀ z, gX12_end n r0 x1 M ρ = some z → Iv W M0 ρ0 z.2 ρ := by
  unfold gX12_end
  exact hd_fX12_end h00 _ _ _ _ _ _ _ _ _ hI (by first | assumption | exact h00 | exact fun h => absurd h (by decide)) (by first | assumption | exact h00 | exact fun h => absurd h (by decide)) (by first | assumption | exact h00 | exact fun h => absurd h (by decide))
set_option maxRecDepth 100000 in
set_option maxHeartbeats 4000000 in
theorem hd_gX12_level (h00 : okr W ρ0 0) {r0 : Nat} {x1 : Int32} {x2 : Int32} {M : ao_M} {ρ : ao_H} (hI : Iv W M0 ρ0 M ρ) (h_r0 : okr W ρ0 r0) : ∀ z, gX12_level r0 x1 x2 M ρ = some z → Iv W M0 ρ0 z.2 ρ := by
  unfold gX12_level
  repeat' (with_reducible (first | exact f_none | refine f_ite (fun hc => ?_) (fun hc => ?_) | refine f_letM (Iv_u (by assumption) ?_) (fun M' hM' => ?_) | refine f_letI (fun v => ?_) | refine f_cs (fun x => ?_) (fun E => ?_) | refine f_letM (Iv_cp (by assumption) ?_) (fun M' hM' => ?_) | refine f_letM (by assumption) (fun M' hM' => ?_)  | refine f_bindF (by assumption) ?_ (fun j hj => ?_) | refine f_bindZ (by assumption) (fun j hj hz => ?_) | refine f_some ?_ | assumption | exact okl (by assumption) | exact okw (by assumption) (by assumption) (by assumption) (by decide) | exact h00 | refine Iv_u (by assumption) ?_ | refine Iv_cp (by assumption) ?_ | refine Iv_r ?_ ?_ ?_ | refine Iv_new (by assumption) (by assumption) (by assumption) | refine Iv_th (by assumption) | refine Iv_u ?_ ?_ | refine Iv_cp ?_ ?_ | apply And.intro))
set_option maxRecDepth 100000 in
set_option maxHeartbeats 4000000 in
theorem hd_gX12_cell (h00 : okr W ρ0 0) {r0 : Nat} {x1 : Int32} {x2 : Int32} {x3 : Int32} {M : ao_M} {ρ : ao_H} (hI : Iv W M0 ρ0 M ρ) (h_r0 : okr W ρ0 r0) : ∀ z, gX12_cell r0 x1 x2 x3 M ρ = some z → Iv W M0 ρ0 z.2 ρ := by
  unfold gX12_cell
  repeat' (with_reducible (first | exact f_none | refine f_ite (fun hc => ?_) (fun hc => ?_) | refine f_letM (Iv_u (by assumption) ?_) (fun M' hM' => ?_) | refine f_letI (fun v => ?_) | refine f_cs (fun x => ?_) (fun E => ?_) | refine f_letM (Iv_cp (by assumption) ?_) (fun M' hM' => ?_) | refine f_letM (by assumption) (fun M' hM' => ?_)  | refine f_bindF (by assumption) ?_ (fun j hj => ?_) | refine f_bindZ (by assumption) (fun j hj hz => ?_) | refine f_some ?_ | assumption | exact okl (by assumption) | exact okw (by assumption) (by assumption) (by assumption) (by decide) | exact h00 | refine Iv_u (by assumption) ?_ | refine Iv_cp (by assumption) ?_ | refine Iv_r ?_ ?_ ?_ | refine Iv_new (by assumption) (by assumption) (by assumption) | refine Iv_th (by assumption) | refine Iv_u ?_ ?_ | refine Iv_cp ?_ ?_ | apply And.intro))
set_option maxRecDepth 100000 in
set_option maxHeartbeats 4000000 in
theorem hd_fX12_clearLevel (h00 : okr W ρ0 0) : ∀ (n : Nat) (pc : Nat) (r0 : Nat) (x1 : Int32) (x2 : Int32) (x3 : Int32) (M : ao_M) (ρ : ao_H), Iv W M0 ρ0 M ρ → okr W ρ0 r0 → ∀ z, fX12_clearLevel n pc r0 x1 x2 x3 M ρ = some z → Iv W M0 ρ0 z ρ := by
  intro n
  induction n with
  | zero => intros; exact absurd (by assumption) (by simp [fX12_clearLevel.eq_1])
  | succ n ih =>
    intro pc r0 x1 x2 x3 M ρ hI h_r0
    rw [fX12_clearLevel.eq_2]
    repeat' (with_reducible (first | exact f_none | refine f_ite (fun hc => ?_) (fun hc => ?_) | refine f_letM (Iv_u (by assumption) ?_) (fun M' hM' => ?_) | refine f_letI (fun v => ?_) | refine f_cs (fun x => ?_) (fun E => ?_) | refine f_letM (Iv_cp (by assumption) ?_) (fun M' hM' => ?_) | refine f_letM (by assumption) (fun M' hM' => ?_) | refine ih _ _ _ _ _ _ _ (by assumption) ?_ | refine ih _ _ _ _ _ _ _ ?_ ?_ | refine f_bind (ih _ _ _ _ _ _ _ (by assumption) ?_) (fun y hy => ?_) | refine f_bind (hd_gX12_level h00 (by assumption) ?_) (fun y hy => ?_) | refine f_bind (hd_gX12_cell h00 (by assumption) ?_) (fun y hy => ?_)  | refine f_bindF (by assumption) ?_ (fun j hj => ?_) | refine f_bindZ (by assumption) (fun j hj hz => ?_) | refine f_some ?_ | assumption | exact okl (by assumption) | exact okw (by assumption) (by assumption) (by assumption) (by decide) | exact h00 | refine Iv_u (by assumption) ?_ | refine Iv_cp (by assumption) ?_ | refine Iv_r ?_ ?_ ?_ | refine Iv_new (by assumption) (by assumption) (by assumption) | refine Iv_th (by assumption) | refine Iv_u ?_ ?_ | refine Iv_cp ?_ ?_ | apply And.intro))
set_option maxRecDepth 100000 in
set_option maxHeartbeats 4000000 in
theorem hd_gX12_clearLevel (h00 : okr W ρ0 0) {n : Nat} {r0 : Nat} {x1 : Int32} {x2 : Int32} {M : ao_M} {ρ : ao_H} (hI : Iv W M0 ρ0 M ρ) (h_r0 : okr W ρ0 r0) : ∀ z, gX12_clearLevel n r0 x1 x2 M ρ = some z → Iv W M0 ρ0 z ρ := by
  unfold gX12_clearLevel
  exact hd_fX12_clearLevel h00 _ _ _ _ _ _ _ _ hI (by first | assumption | exact h00 | exact fun h => absurd h (by decide))
set_option maxRecDepth 100000 in
set_option maxHeartbeats 4000000 in
theorem hd_fX12_reset (h00 : okr W ρ0 0) : ∀ (n : Nat) (pc : Nat) (r0 : Nat) (x1 : Int32) (x2 : Int32) (M : ao_M) (ρ : ao_H), Iv W M0 ρ0 M ρ → okr W ρ0 r0 → ∀ z, fX12_reset n pc r0 x1 x2 M ρ = some z → Iv W M0 ρ0 z ρ := by
  intro n
  induction n with
  | zero => intros; exact absurd (by assumption) (by simp [fX12_reset.eq_1])
  | succ n ih =>
    intro pc r0 x1 x2 M ρ hI h_r0
    rw [fX12_reset.eq_2]
    repeat' (with_reducible (first | exact f_none | refine f_ite (fun hc => ?_) (fun hc => ?_) | refine f_letM (Iv_u (by assumption) ?_) (fun M' hM' => ?_) | refine f_letI (fun v => ?_) | refine f_cs (fun x => ?_) (fun E => ?_) | refine f_letM (Iv_cp (by assumption) ?_) (fun M' hM' => ?_) | refine f_letM (by assumption) (fun M' hM' => ?_) | refine ih _ _ _ _ _ _ (by assumption) ?_ | refine ih _ _ _ _ _ _ ?_ ?_ | refine f_bind (ih _ _ _ _ _ _ (by assumption) ?_) (fun y hy => ?_) | refine f_bind (hd_gX12_clearLevel h00 (by assumption) ?_) (fun y hy => ?_)  | refine f_bindF (by assumption) ?_ (fun j hj => ?_) | refine f_bindZ (by assumption) (fun j hj hz => ?_) | refine f_some ?_ | assumption | exact okl (by assumption) | exact okw (by assumption) (by assumption) (by assumption) (by decide) | exact h00 | refine Iv_u (by assumption) ?_ | refine Iv_cp (by assumption) ?_ | refine Iv_r ?_ ?_ ?_ | refine Iv_new (by assumption) (by assumption) (by assumption) | refine Iv_th (by assumption) | refine Iv_u ?_ ?_ | refine Iv_cp ?_ ?_ | apply And.intro))
set_option maxRecDepth 100000 in
set_option maxHeartbeats 4000000 in
theorem hd_gX12_reset (h00 : okr W ρ0 0) {n : Nat} {r0 : Nat} {x1 : Int32} {M : ao_M} {ρ : ao_H} (hI : Iv W M0 ρ0 M ρ) (h_r0 : okr W ρ0 r0) : ∀ z, gX12_reset n r0 x1 M ρ = some z → Iv W M0 ρ0 z ρ := by
  unfold gX12_reset
  exact hd_fX12_reset h00 _ _ _ _ _ _ _ hI (by first | assumption | exact h00 | exact fun h => absurd h (by decide))
set_option maxRecDepth 100000 in
set_option maxHeartbeats 4000000 in
theorem hd_fX12_begin (h00 : okr W ρ0 0) : ∀ (n : Nat) (pc : Nat) (r0 : Nat) (x1 : Int32) (x2 : Int32) (M : ao_M) (ρ : ao_H), Iv W M0 ρ0 M ρ → okr W ρ0 r0 → ∀ z, fX12_begin n pc r0 x1 x2 M ρ = some z → Iv W M0 ρ0 z ρ := by
  intro n
  induction n with
  | zero => intros; exact absurd (by assumption) (by simp [fX12_begin.eq_1])
  | succ n ih =>
    intro pc r0 x1 x2 M ρ hI h_r0
    rw [fX12_begin.eq_2]
    repeat' (with_reducible (first | exact f_none | refine f_ite (fun hc => ?_) (fun hc => ?_) | refine f_letM (Iv_u (by assumption) ?_) (fun M' hM' => ?_) | refine f_letI (fun v => ?_) | refine f_cs (fun x => ?_) (fun E => ?_) | refine f_letM (Iv_cp (by assumption) ?_) (fun M' hM' => ?_) | refine f_letM (by assumption) (fun M' hM' => ?_) | refine ih _ _ _ _ _ _ (by assumption) ?_ | refine ih _ _ _ _ _ _ ?_ ?_ | refine f_bind (ih _ _ _ _ _ _ (by assumption) ?_) (fun y hy => ?_) | refine f_bind (hd_gX12_reset h00 (by assumption) ?_) (fun y hy => ?_)  | refine f_bindF (by assumption) ?_ (fun j hj => ?_) | refine f_bindZ (by assumption) (fun j hj hz => ?_) | refine f_some ?_ | assumption | exact okl (by assumption) | exact okw (by assumption) (by assumption) (by assumption) (by decide) | exact h00 | refine Iv_u (by assumption) ?_ | refine Iv_cp (by assumption) ?_ | refine Iv_r ?_ ?_ ?_ | refine Iv_new (by assumption) (by assumption) (by assumption) | refine Iv_th (by assumption) | refine Iv_u ?_ ?_ | refine Iv_cp ?_ ?_ | apply And.intro))
set_option maxRecDepth 100000 in
set_option maxHeartbeats 4000000 in
theorem hd_gX12_begin (h00 : okr W ρ0 0) {n : Nat} {r0 : Nat} {x1 : Int32} {M : ao_M} {ρ : ao_H} (hI : Iv W M0 ρ0 M ρ) (h_r0 : okr W ρ0 r0) : ∀ z, gX12_begin n r0 x1 M ρ = some z → Iv W M0 ρ0 z ρ := by
  unfold gX12_begin
  exact hd_fX12_begin h00 _ _ _ _ _ _ _ hI (by first | assumption | exact h00 | exact fun h => absurd h (by decide))
set_option maxRecDepth 100000 in
set_option maxHeartbeats 4000000 in
theorem hd_fX12_start (h00 : okr W ρ0 0) : ∀ (n : Nat) (pc : Nat) (r0 : Nat) (x1 : Int32) (q0 : Nat) (s0 : Int32) (q1 : Nat) (M : ao_M) (ρ : ao_H), Iv W M0 ρ0 M ρ → okr W ρ0 r0 → okr W ρ0 q0 → okr W ρ0 q1 → ∀ z, fX12_start n pc r0 x1 q0 s0 q1 M ρ = some z → Iv W M0 ρ0 z ρ := by
  intro n
  induction n with
  | zero => intros; exact absurd (by assumption) (by simp [fX12_start.eq_1])
  | succ n ih =>
    intro pc r0 x1 q0 s0 q1 M ρ hI h_r0 h_q0 h_q1
    rw [fX12_start.eq_2]
    repeat' (with_reducible (first | exact f_none | refine f_ite (fun hc => ?_) (fun hc => ?_) | refine f_letM (Iv_u (by assumption) ?_) (fun M' hM' => ?_) | refine f_letI (fun v => ?_) | refine f_cs (fun x => ?_) (fun E => ?_) | refine f_letM (Iv_cp (by assumption) ?_) (fun M' hM' => ?_) | refine f_letM (by assumption) (fun M' hM' => ?_) | refine ih _ _ _ _ _ _ _ _ (by assumption) ?_ ?_ ?_ | refine ih _ _ _ _ _ _ _ _ ?_ ?_ ?_ ?_ | refine f_bind (ih _ _ _ _ _ _ _ _ (by assumption) ?_ ?_ ?_) (fun y hy => ?_) | refine f_bind (hd_gX12_fails h00 (by assumption) ?_) (fun y hy => ?_) | refine f_bind (hd_gX12_begin h00 (by assumption) ?_) (fun y hy => ?_)  | refine f_bindF (by assumption) ?_ (fun j hj => ?_) | refine f_bindZ (by assumption) (fun j hj hz => ?_) | refine f_some ?_ | assumption | exact okl (by assumption) | exact okw (by assumption) (by assumption) (by assumption) (by decide) | exact h00 | refine Iv_u (by assumption) ?_ | refine Iv_cp (by assumption) ?_ | refine Iv_r ?_ ?_ ?_ | refine Iv_new (by assumption) (by assumption) (by assumption) | refine Iv_th (by assumption) | refine Iv_u ?_ ?_ | refine Iv_cp ?_ ?_ | apply And.intro))
set_option maxRecDepth 100000 in
set_option maxHeartbeats 4000000 in
theorem hd_gX12_start (h00 : okr W ρ0 0) {n : Nat} {r0 : Nat} {x1 : Int32} {M : ao_M} {ρ : ao_H} (hI : Iv W M0 ρ0 M ρ) (h_r0 : okr W ρ0 r0) : ∀ z, gX12_start n r0 x1 M ρ = some z → Iv W M0 ρ0 z ρ := by
  unfold gX12_start
  exact hd_fX12_start h00 _ _ _ _ _ _ _ _ _ hI (by first | assumption | exact h00 | exact fun h => absurd h (by decide)) (by first | assumption | exact h00 | exact fun h => absurd h (by decide)) (by first | assumption | exact h00 | exact fun h => absurd h (by decide))
set_option maxRecDepth 100000 in
set_option maxHeartbeats 4000000 in
theorem hd_gX12_isThread (h00 : okr W ρ0 0) {x0 : Int32} {M : ao_M} {ρ : ao_H} (hI : Iv W M0 ρ0 M ρ)  : ∀ z, gX12_isThread x0 M ρ = some z → Iv W M0 ρ0 z.2 ρ := by
  unfold gX12_isThread
  repeat' (with_reducible (first | exact f_none | refine f_ite (fun hc => ?_) (fun hc => ?_) | refine f_letM (Iv_u (by assumption) ?_) (fun M' hM' => ?_) | refine f_letI (fun v => ?_) | refine f_cs (fun x => ?_) (fun E => ?_) | refine f_letM (Iv_cp (by assumption) ?_) (fun M' hM' => ?_) | refine f_letM (by assumption) (fun M' hM' => ?_)  | refine f_bindF (by assumption) ?_ (fun j hj => ?_) | refine f_bindZ (by assumption) (fun j hj hz => ?_) | refine f_some ?_ | assumption | exact okl (by assumption) | exact okw (by assumption) (by assumption) (by assumption) (by decide) | exact h00 | refine Iv_u (by assumption) ?_ | refine Iv_cp (by assumption) ?_ | refine Iv_r ?_ ?_ ?_ | refine Iv_new (by assumption) (by assumption) (by assumption) | refine Iv_th (by assumption) | refine Iv_u ?_ ?_ | refine Iv_cp ?_ ?_ | apply And.intro))
set_option maxRecDepth 100000 in
set_option maxHeartbeats 4000000 in
theorem hd_gX12_byteAt (h00 : okr W ρ0 0) {r0 : Nat} {x1 : Int32} {M : ao_M} {ρ : ao_H} (hI : Iv W M0 ρ0 M ρ) (h_r0 : okr W ρ0 r0) : ∀ z, gX12_byteAt r0 x1 M ρ = some z → Iv W M0 ρ0 z.2 ρ := by
  unfold gX12_byteAt
  repeat' (with_reducible (first | exact f_none | refine f_ite (fun hc => ?_) (fun hc => ?_) | refine f_letM (Iv_u (by assumption) ?_) (fun M' hM' => ?_) | refine f_letI (fun v => ?_) | refine f_cs (fun x => ?_) (fun E => ?_) | refine f_letM (Iv_cp (by assumption) ?_) (fun M' hM' => ?_) | refine f_letM (by assumption) (fun M' hM' => ?_)  | refine f_bindF (by assumption) ?_ (fun j hj => ?_) | refine f_bindZ (by assumption) (fun j hj hz => ?_) | refine f_some ?_ | assumption | exact okl (by assumption) | exact okw (by assumption) (by assumption) (by assumption) (by decide) | exact h00 | refine Iv_u (by assumption) ?_ | refine Iv_cp (by assumption) ?_ | refine Iv_r ?_ ?_ ?_ | refine Iv_new (by assumption) (by assumption) (by assumption) | refine Iv_th (by assumption) | refine Iv_u ?_ ?_ | refine Iv_cp ?_ ?_ | apply And.intro))
set_option maxRecDepth 100000 in
set_option maxHeartbeats 4000000 in
theorem hd_fX12_isLetter (h00 : okr W ρ0 0) : ∀ (n : Nat) (pc : Nat) (x0 : Int32) (M : ao_M) (ρ : ao_H), Iv W M0 ρ0 M ρ → ∀ z, fX12_isLetter n pc x0 M ρ = some z → Iv W M0 ρ0 z.2 ρ := by
  intro n
  induction n with
  | zero => intros; exact absurd (by assumption) (by simp [fX12_isLetter.eq_1])
  | succ n ih =>
    intro pc x0 M ρ hI 
    rw [fX12_isLetter.eq_2]
    repeat' (with_reducible (first | exact f_none | refine f_ite (fun hc => ?_) (fun hc => ?_) | refine f_letM (Iv_u (by assumption) ?_) (fun M' hM' => ?_) | refine f_letI (fun v => ?_) | refine f_cs (fun x => ?_) (fun E => ?_) | refine f_letM (Iv_cp (by assumption) ?_) (fun M' hM' => ?_) | refine f_letM (by assumption) (fun M' hM' => ?_) | refine ih _ _ _ _ (by assumption)  | refine ih _ _ _ _ ?_  | refine f_bind (ih _ _ _ _ (by assumption) ) (fun y hy => ?_)  | refine f_bindF (by assumption) ?_ (fun j hj => ?_) | refine f_bindZ (by assumption) (fun j hj hz => ?_) | refine f_some ?_ | assumption | exact okl (by assumption) | exact okw (by assumption) (by assumption) (by assumption) (by decide) | exact h00 | refine Iv_u (by assumption) ?_ | refine Iv_cp (by assumption) ?_ | refine Iv_r ?_ ?_ ?_ | refine Iv_new (by assumption) (by assumption) (by assumption) | refine Iv_th (by assumption) | refine Iv_u ?_ ?_ | refine Iv_cp ?_ ?_ | apply And.intro))
set_option maxRecDepth 100000 in
set_option maxHeartbeats 4000000 in
theorem hd_gX12_isLetter (h00 : okr W ρ0 0) {n : Nat} {x0 : Int32} {M : ao_M} {ρ : ao_H} (hI : Iv W M0 ρ0 M ρ)  : ∀ z, gX12_isLetter n x0 M ρ = some z → Iv W M0 ρ0 z.2 ρ := by
  unfold gX12_isLetter
  exact hd_fX12_isLetter h00 _ _ _ _ _ hI 
set_option maxRecDepth 100000 in
set_option maxHeartbeats 4000000 in
theorem hd_gX12_isDigit (h00 : okr W ρ0 0) {x0 : Int32} {M : ao_M} {ρ : ao_H} (hI : Iv W M0 ρ0 M ρ)  : ∀ z, gX12_isDigit x0 M ρ = some z → Iv W M0 ρ0 z.2 ρ := by
  unfold gX12_isDigit
  repeat' (with_reducible (first | exact f_none | refine f_ite (fun hc => ?_) (fun hc => ?_) | refine f_letM (Iv_u (by assumption) ?_) (fun M' hM' => ?_) | refine f_letI (fun v => ?_) | refine f_cs (fun x => ?_) (fun E => ?_) | refine f_letM (Iv_cp (by assumption) ?_) (fun M' hM' => ?_) | refine f_letM (by assumption) (fun M' hM' => ?_)  | refine f_bindF (by assumption) ?_ (fun j hj => ?_) | refine f_bindZ (by assumption) (fun j hj hz => ?_) | refine f_some ?_ | assumption | exact okl (by assumption) | exact okw (by assumption) (by assumption) (by assumption) (by decide) | exact h00 | refine Iv_u (by assumption) ?_ | refine Iv_cp (by assumption) ?_ | refine Iv_r ?_ ?_ ?_ | refine Iv_new (by assumption) (by assumption) (by assumption) | refine Iv_th (by assumption) | refine Iv_u ?_ ?_ | refine Iv_cp ?_ ?_ | apply And.intro))
set_option maxRecDepth 100000 in
set_option maxHeartbeats 4000000 in
theorem hd_fX12_wordOf (h00 : okr W ρ0 0) : ∀ (n : Nat) (pc : Nat) (r0 : Nat) (x1 : Int32) (x2 : Int32) (x3 : Int32) (x4 : Int32) (x5 : Int32) (x6 : Int32) (x7 : Int32) (s0 : Int32) (M : ao_M) (ρ : ao_H), Iv W M0 ρ0 M ρ → okr W ρ0 r0 → ∀ z, fX12_wordOf n pc r0 x1 x2 x3 x4 x5 x6 x7 s0 M ρ = some z → Iv W M0 ρ0 z.2 ρ := by
  intro n
  induction n with
  | zero => intros; exact absurd (by assumption) (by simp [fX12_wordOf.eq_1])
  | succ n ih =>
    intro pc r0 x1 x2 x3 x4 x5 x6 x7 s0 M ρ hI h_r0
    rw [fX12_wordOf.eq_2]
    repeat' (with_reducible (first | exact f_none | refine f_ite (fun hc => ?_) (fun hc => ?_) | refine f_letM (Iv_u (by assumption) ?_) (fun M' hM' => ?_) | refine f_letI (fun v => ?_) | refine f_cs (fun x => ?_) (fun E => ?_) | refine f_letM (Iv_cp (by assumption) ?_) (fun M' hM' => ?_) | refine f_letM (by assumption) (fun M' hM' => ?_) | refine ih _ _ _ _ _ _ _ _ _ _ _ _ (by assumption) ?_ | refine ih _ _ _ _ _ _ _ _ _ _ _ _ ?_ ?_ | refine f_bind (ih _ _ _ _ _ _ _ _ _ _ _ _ (by assumption) ?_) (fun y hy => ?_)  | refine f_bindF (by assumption) ?_ (fun j hj => ?_) | refine f_bindZ (by assumption) (fun j hj hz => ?_) | refine f_some ?_ | assumption | exact okl (by assumption) | exact okw (by assumption) (by assumption) (by assumption) (by decide) | exact h00 | refine Iv_u (by assumption) ?_ | refine Iv_cp (by assumption) ?_ | refine Iv_r ?_ ?_ ?_ | refine Iv_new (by assumption) (by assumption) (by assumption) | refine Iv_th (by assumption) | refine Iv_u ?_ ?_ | refine Iv_cp ?_ ?_ | apply And.intro))
set_option maxRecDepth 100000 in
set_option maxHeartbeats 4000000 in
theorem hd_gX12_wordOf (h00 : okr W ρ0 0) {n : Nat} {r0 : Nat} {x1 : Int32} {x2 : Int32} {M : ao_M} {ρ : ao_H} (hI : Iv W M0 ρ0 M ρ) (h_r0 : okr W ρ0 r0) : ∀ z, gX12_wordOf n r0 x1 x2 M ρ = some z → Iv W M0 ρ0 z.2 ρ := by
  unfold gX12_wordOf
  exact hd_fX12_wordOf h00 _ _ _ _ _ _ _ _ _ _ _ _ _ hI (by first | assumption | exact h00 | exact fun h => absurd h (by decide))
set_option maxRecDepth 100000 in
set_option maxHeartbeats 4000000 in
theorem hd_fX12_token (h00 : okr W ρ0 0) : ∀ (n : Nat) (pc : Nat) (r0 : Nat) (x1 : Int32) (x2 : Int32) (s0 : Int32) (q1 : Nat) (M : ao_M) (ρ : ao_H), Iv W M0 ρ0 M ρ → okr W ρ0 r0 → okr W ρ0 q1 → ∀ z, fX12_token n pc r0 x1 x2 s0 q1 M ρ = some z → Iv W M0 ρ0 z ρ := by
  intro n
  induction n with
  | zero => intros; exact absurd (by assumption) (by simp [fX12_token.eq_1])
  | succ n ih =>
    intro pc r0 x1 x2 s0 q1 M ρ hI h_r0 h_q1
    rw [fX12_token.eq_2]
    repeat' (with_reducible (first | exact f_none | refine f_ite (fun hc => ?_) (fun hc => ?_) | refine f_letM (Iv_u (by assumption) ?_) (fun M' hM' => ?_) | refine f_letI (fun v => ?_) | refine f_cs (fun x => ?_) (fun E => ?_) | refine f_letM (Iv_cp (by assumption) ?_) (fun M' hM' => ?_) | refine f_letM (by assumption) (fun M' hM' => ?_) | refine ih _ _ _ _ _ _ _ _ (by assumption) ?_ ?_ | refine ih _ _ _ _ _ _ _ _ ?_ ?_ ?_ | refine f_bind (ih _ _ _ _ _ _ _ _ (by assumption) ?_ ?_) (fun y hy => ?_) | refine f_bind (hd_gX12_byteAt h00 (by assumption) ?_) (fun y hy => ?_) | refine f_bind (hd_gX12_isLetter h00 (by assumption)) (fun y hy => ?_) | refine f_bind (hd_gX12_isDigit h00 (by assumption)) (fun y hy => ?_) | refine f_bind (hd_gX12_wordOf h00 (by assumption) ?_) (fun y hy => ?_)  | refine f_bindF (by assumption) ?_ (fun j hj => ?_) | refine f_bindZ (by assumption) (fun j hj hz => ?_) | refine f_some ?_ | assumption | exact okl (by assumption) | exact okw (by assumption) (by assumption) (by assumption) (by decide) | exact h00 | refine Iv_u (by assumption) ?_ | refine Iv_cp (by assumption) ?_ | refine Iv_r ?_ ?_ ?_ | refine Iv_new (by assumption) (by assumption) (by assumption) | refine Iv_th (by assumption) | refine Iv_u ?_ ?_ | refine Iv_cp ?_ ?_ | apply And.intro))
set_option maxRecDepth 100000 in
set_option maxHeartbeats 4000000 in
theorem hd_gX12_token (h00 : okr W ρ0 0) {n : Nat} {r0 : Nat} {M : ao_M} {ρ : ao_H} (hI : Iv W M0 ρ0 M ρ) (h_r0 : okr W ρ0 r0) : ∀ z, gX12_token n r0 M ρ = some z → Iv W M0 ρ0 z ρ := by
  unfold gX12_token
  exact hd_fX12_token h00 _ _ _ _ _ _ _ _ _ hI (by first | assumption | exact h00 | exact fun h => absurd h (by decide)) (by first | assumption | exact h00 | exact fun h => absurd h (by decide))
set_option maxRecDepth 100000 in
set_option maxHeartbeats 4000000 in
theorem hd_gX12_make (h00 : okr W ρ0 0) {r0 : Nat} {x1 : Int32} {x2 : Int32} {x3 : Int32} {M : ao_M} {ρ : ao_H} (hI : Iv W M0 ρ0 M ρ) (h_r0 : okr W ρ0 r0) : ∀ z, gX12_make r0 x1 x2 x3 M ρ = some z → Iv W M0 ρ0 z.2 ρ := by
  unfold gX12_make
  repeat' (with_reducible (first | exact f_none | refine f_ite (fun hc => ?_) (fun hc => ?_) | refine f_letM (Iv_u (by assumption) ?_) (fun M' hM' => ?_) | refine f_letI (fun v => ?_) | refine f_cs (fun x => ?_) (fun E => ?_) | refine f_letM (Iv_cp (by assumption) ?_) (fun M' hM' => ?_) | refine f_letM (by assumption) (fun M' hM' => ?_)  | refine f_bindF (by assumption) ?_ (fun j hj => ?_) | refine f_bindZ (by assumption) (fun j hj hz => ?_) | refine f_some ?_ | assumption | exact okl (by assumption) | exact okw (by assumption) (by assumption) (by assumption) (by decide) | exact h00 | refine Iv_u (by assumption) ?_ | refine Iv_cp (by assumption) ?_ | refine Iv_r ?_ ?_ ?_ | refine Iv_new (by assumption) (by assumption) (by assumption) | refine Iv_th (by assumption) | refine Iv_u ?_ ?_ | refine Iv_cp ?_ ?_ | apply And.intro))
set_option maxRecDepth 100000 in
set_option maxHeartbeats 4000000 in
theorem hd_gX12_isSign (h00 : okr W ρ0 0) {r0 : Nat} {x1 : Int32} {M : ao_M} {ρ : ao_H} (hI : Iv W M0 ρ0 M ρ) (h_r0 : okr W ρ0 r0) : ∀ z, gX12_isSign r0 x1 M ρ = some z → Iv W M0 ρ0 z.2 ρ := by
  unfold gX12_isSign
  repeat' (with_reducible (first | exact f_none | refine f_ite (fun hc => ?_) (fun hc => ?_) | refine f_letM (Iv_u (by assumption) ?_) (fun M' hM' => ?_) | refine f_letI (fun v => ?_) | refine f_cs (fun x => ?_) (fun E => ?_) | refine f_letM (Iv_cp (by assumption) ?_) (fun M' hM' => ?_) | refine f_letM (by assumption) (fun M' hM' => ?_)  | refine f_bindF (by assumption) ?_ (fun j hj => ?_) | refine f_bindZ (by assumption) (fun j hj hz => ?_) | refine f_some ?_ | assumption | exact okl (by assumption) | exact okw (by assumption) (by assumption) (by assumption) (by decide) | exact h00 | refine Iv_u (by assumption) ?_ | refine Iv_cp (by assumption) ?_ | refine Iv_r ?_ ?_ ?_ | refine Iv_new (by assumption) (by assumption) (by assumption) | refine Iv_th (by assumption) | refine Iv_u ?_ ?_ | refine Iv_cp ?_ ?_ | apply And.intro))
set_option maxRecDepth 100000 in
set_option maxHeartbeats 4000000 in
theorem hd_gX12_wrong (h00 : okr W ρ0 0) {r0 : Nat} {x1 : Int32} {M : ao_M} {ρ : ao_H} (hI : Iv W M0 ρ0 M ρ) (h_r0 : okr W ρ0 r0) : ∀ z, gX12_wrong r0 x1 M ρ = some z → (Iv W M0 ρ0 z.2 ρ ∧ okr W ρ0 z.1) := by
  unfold gX12_wrong
  repeat' (with_reducible (first | exact f_none | refine f_ite (fun hc => ?_) (fun hc => ?_) | refine f_letM (Iv_u (by assumption) ?_) (fun M' hM' => ?_) | refine f_letI (fun v => ?_) | refine f_cs (fun x => ?_) (fun E => ?_) | refine f_letM (Iv_cp (by assumption) ?_) (fun M' hM' => ?_) | refine f_letM (by assumption) (fun M' hM' => ?_)  | refine f_bindF (by assumption) ?_ (fun j hj => ?_) | refine f_bindZ (by assumption) (fun j hj hz => ?_) | refine f_some ?_ | assumption | exact okl (by assumption) | exact okw (by assumption) (by assumption) (by assumption) (by decide) | exact h00 | refine Iv_u (by assumption) ?_ | refine Iv_cp (by assumption) ?_ | refine Iv_r ?_ ?_ ?_ | refine Iv_new (by assumption) (by assumption) (by assumption) | refine Iv_th (by assumption) | refine Iv_u ?_ ?_ | refine Iv_cp ?_ ?_ | apply And.intro))
set_option maxRecDepth 100000 in
set_option maxHeartbeats 4000000 in
theorem hd_fX12_enter (h00 : okr W ρ0 0) : ∀ (n : Nat) (pc : Nat) (r0 : Nat) (M : ao_M) (ρ : ao_H), Iv W M0 ρ0 M ρ → okr W ρ0 r0 → ∀ z, fX12_enter n pc r0 M ρ = some z → Iv W M0 ρ0 z.2.1 z.2.2 := by
  intro n
  induction n with
  | zero => intros; exact absurd (by assumption) (by simp [fX12_enter.eq_1])
  | succ n ih =>
    intro pc r0 M ρ hI h_r0
    rw [fX12_enter.eq_2]
    repeat' (with_reducible (first | exact f_none | refine f_ite (fun hc => ?_) (fun hc => ?_) | refine f_letM (Iv_u (by assumption) ?_) (fun M' hM' => ?_) | refine f_letI (fun v => ?_) | refine f_cs (fun x => ?_) (fun E => ?_) | refine f_letM (Iv_cp (by assumption) ?_) (fun M' hM' => ?_) | refine f_letM (by assumption) (fun M' hM' => ?_) | refine ih _ _ _ _ (by assumption) ?_ | refine ih _ _ _ _ ?_ ?_ | refine f_bind (ih _ _ _ _ (by assumption) ?_) (fun y hy => ?_) | refine f_bind2 (hd_gX12_wrong h00 (by assumption) ?_) (fun y hy1 hy2 => ?_)  | refine f_bindF (by assumption) ?_ (fun j hj => ?_) | refine f_bindZ (by assumption) (fun j hj hz => ?_) | refine f_some ?_ | assumption | exact okl (by assumption) | exact okw (by assumption) (by assumption) (by assumption) (by decide) | exact h00 | refine Iv_u (by assumption) ?_ | refine Iv_cp (by assumption) ?_ | refine Iv_r ?_ ?_ ?_ | refine Iv_new (by assumption) (by assumption) (by assumption) | refine Iv_th (by assumption) | refine Iv_u ?_ ?_ | refine Iv_cp ?_ ?_ | apply And.intro))
set_option maxRecDepth 100000 in
set_option maxHeartbeats 4000000 in
theorem hd_gX12_enter (h00 : okr W ρ0 0) {n : Nat} {r0 : Nat} {M : ao_M} {ρ : ao_H} (hI : Iv W M0 ρ0 M ρ) (h_r0 : okr W ρ0 r0) : ∀ z, gX12_enter n r0 M ρ = some z → Iv W M0 ρ0 z.2.1 z.2.2 := by
  unfold gX12_enter
  exact hd_fX12_enter h00 _ _ _ _ _ hI (by first | assumption | exact h00 | exact fun h => absurd h (by decide))
set_option maxRecDepth 100000 in
set_option maxHeartbeats 4000000 in
theorem hd_gX12_take (h00 : okr W ρ0 0) {n : Nat} {r0 : Nat} {x1 : Int32} {M : ao_M} {ρ : ao_H} (hI : Iv W M0 ρ0 M ρ) (h_r0 : okr W ρ0 r0) : ∀ z, gX12_take n r0 x1 M ρ = some z → Iv W M0 ρ0 z.2 ρ := by
  unfold gX12_take
  repeat' (with_reducible (first | exact f_none | refine f_ite (fun hc => ?_) (fun hc => ?_) | refine f_letM (Iv_u (by assumption) ?_) (fun M' hM' => ?_) | refine f_letI (fun v => ?_) | refine f_cs (fun x => ?_) (fun E => ?_) | refine f_letM (Iv_cp (by assumption) ?_) (fun M' hM' => ?_) | refine f_letM (by assumption) (fun M' hM' => ?_) | refine f_bind (hd_gX12_isSign h00 (by assumption) ?_) (fun y hy => ?_) | refine f_bind (hd_gX12_token h00 (by assumption) ?_) (fun y hy => ?_)  | refine f_bindF (by assumption) ?_ (fun j hj => ?_) | refine f_bindZ (by assumption) (fun j hj hz => ?_) | refine f_some ?_ | assumption | exact okl (by assumption) | exact okw (by assumption) (by assumption) (by assumption) (by decide) | exact h00 | refine Iv_u (by assumption) ?_ | refine Iv_cp (by assumption) ?_ | refine Iv_r ?_ ?_ ?_ | refine Iv_new (by assumption) (by assumption) (by assumption) | refine Iv_th (by assumption) | refine Iv_u ?_ ?_ | refine Iv_cp ?_ ?_ | apply And.intro))
set_option maxRecDepth 100000 in
set_option maxHeartbeats 4000000 in
theorem hd_fX12_need (h00 : okr W ρ0 0) : ∀ (n : Nat) (pc : Nat) (r0 : Nat) (x1 : Int32) (M : ao_M) (ρ : ao_H), Iv W M0 ρ0 M ρ → okr W ρ0 r0 → ∀ z, fX12_need n pc r0 x1 M ρ = some z → Iv W M0 ρ0 z.2.1 z.2.2 := by
  intro n
  induction n with
  | zero => intros; exact absurd (by assumption) (by simp [fX12_need.eq_1])
  | succ n ih =>
    intro pc r0 x1 M ρ hI h_r0
    rw [fX12_need.eq_2]
    repeat' (with_reducible (first | exact f_none | refine f_ite (fun hc => ?_) (fun hc => ?_) | refine f_letM (Iv_u (by assumption) ?_) (fun M' hM' => ?_) | refine f_letI (fun v => ?_) | refine f_cs (fun x => ?_) (fun E => ?_) | refine f_letM (Iv_cp (by assumption) ?_) (fun M' hM' => ?_) | refine f_letM (by assumption) (fun M' hM' => ?_) | refine ih _ _ _ _ _ (by assumption) ?_ | refine ih _ _ _ _ _ ?_ ?_ | refine f_bind (ih _ _ _ _ _ (by assumption) ?_) (fun y hy => ?_) | refine f_bind (hd_gX12_take h00 (by assumption) ?_) (fun y hy => ?_) | refine f_bind2 (hd_gX12_wrong h00 (by assumption) ?_) (fun y hy1 hy2 => ?_)  | refine f_bindF (by assumption) ?_ (fun j hj => ?_) | refine f_bindZ (by assumption) (fun j hj hz => ?_) | refine f_some ?_ | assumption | exact okl (by assumption) | exact okw (by assumption) (by assumption) (by assumption) (by decide) | exact h00 | refine Iv_u (by assumption) ?_ | refine Iv_cp (by assumption) ?_ | refine Iv_r ?_ ?_ ?_ | refine Iv_new (by assumption) (by assumption) (by assumption) | refine Iv_th (by assumption) | refine Iv_u ?_ ?_ | refine Iv_cp ?_ ?_ | apply And.intro))
set_option maxRecDepth 100000 in
set_option maxHeartbeats 4000000 in
theorem hd_gX12_need (h00 : okr W ρ0 0) {n : Nat} {r0 : Nat} {x1 : Int32} {M : ao_M} {ρ : ao_H} (hI : Iv W M0 ρ0 M ρ) (h_r0 : okr W ρ0 r0) : ∀ z, gX12_need n r0 x1 M ρ = some z → Iv W M0 ρ0 z.2.1 z.2.2 := by
  unfold gX12_need
  exact hd_fX12_need h00 _ _ _ _ _ _ hI (by first | assumption | exact h00 | exact fun h => absurd h (by decide))
set_option maxRecDepth 100000 in
set_option maxHeartbeats 4000000 in
theorem hd_fGE (h00 : okr W ρ0 0) : ∀ (n : Nat) (e : Nat) (pc : Nat) (r0 : Nat) (x1 : Int32) (s0 : Int32) (q1 : Nat) (M : ao_M) (ρ : ao_H), Iv W M0 ρ0 M ρ → okr W ρ0 r0 → okr W ρ0 q1 → ∀ z, fGE n e pc r0 x1 s0 q1 M ρ = some z → Iv W M0 ρ0 z.2.1 z.2.2 := by
  intro n
  induction n with
  | zero => intros; exact absurd (by assumption) (by simp [fGE.eq_1])
  | succ n ih =>
    intro e pc r0 x1 s0 q1 M ρ hI h_r0 h_q1
    rw [fGE.eq_2]
    repeat' (with_reducible (first | exact f_none | refine f_ite (fun hc => ?_) (fun hc => ?_) | refine f_letM (Iv_u (by assumption) ?_) (fun M' hM' => ?_) | refine f_letI (fun v => ?_) | refine f_cs (fun x => ?_) (fun E => ?_) | refine f_letM (Iv_cp (by assumption) ?_) (fun M' hM' => ?_) | refine f_letM (by assumption) (fun M' hM' => ?_) | refine ih _ _ _ _ _ _ _ _ (by assumption) ?_ ?_ | refine ih _ _ _ _ _ _ _ _ ?_ ?_ ?_ | refine f_bind (ih _ _ _ _ _ _ _ _ (by assumption) ?_ ?_) (fun y hy => ?_) | refine f_bind (hd_gX12_isSign h00 (by assumption) ?_) (fun y hy => ?_) | refine f_bind (hd_gX12_token h00 (by assumption) ?_) (fun y hy => ?_) | refine f_bind (hd_gX12_make h00 (by assumption) ?_) (fun y hy => ?_) | refine f_bind2 (hd_gX12_wrong h00 (by assumption) ?_) (fun y hy1 hy2 => ?_) | refine f_bind (hd_gX12_enter h00 (by assumption) ?_) (fun y hy => ?_) | refine f_bind (hd_gX12_need h00 (by assumption) ?_) (fun y hy => ?_)  | refine f_bindF (by assumption) ?_ (fun j hj => ?_) | refine f_bindZ (by assumption) (fun j hj hz => ?_) | refine f_some ?_ | assumption | exact okl (by assumption) | exact okw (by assumption) (by assumption) (by assumption) (by decide) | exact h00 | refine Iv_u (by assumption) ?_ | refine Iv_cp (by assumption) ?_ | refine Iv_r ?_ ?_ ?_ | refine Iv_new (by assumption) (by assumption) (by assumption) | refine Iv_th (by assumption) | refine Iv_u ?_ ?_ | refine Iv_cp ?_ ?_ | apply And.intro))
set_option maxRecDepth 100000 in
set_option maxHeartbeats 4000000 in
theorem hd_gX12_expression (h00 : okr W ρ0 0) {n : Nat} {r0 : Nat} {M : ao_M} {ρ : ao_H} (hI : Iv W M0 ρ0 M ρ) (h_r0 : okr W ρ0 r0) : ∀ z, gX12_expression n r0 M ρ = some z → Iv W M0 ρ0 z.2.1 z.2.2 := by
  unfold gX12_expression
  exact hd_fGE h00 _ _ _ _ _ _ _ _ _ hI (by first | assumption | exact h00 | exact fun h => absurd h (by decide)) (by first | assumption | exact h00 | exact fun h => absurd h (by decide))
set_option maxRecDepth 100000 in
set_option maxHeartbeats 4000000 in
theorem hd_fX12_condition (h00 : okr W ρ0 0) : ∀ (n : Nat) (pc : Nat) (r0 : Nat) (M : ao_M) (ρ : ao_H), Iv W M0 ρ0 M ρ → okr W ρ0 r0 → ∀ z, fX12_condition n pc r0 M ρ = some z → Iv W M0 ρ0 z.2.1 z.2.2 := by
  intro n
  induction n with
  | zero => intros; exact absurd (by assumption) (by simp [fX12_condition.eq_1])
  | succ n ih =>
    intro pc r0 M ρ hI h_r0
    rw [fX12_condition.eq_2]
    repeat' (with_reducible (first | exact f_none | refine f_ite (fun hc => ?_) (fun hc => ?_) | refine f_letM (Iv_u (by assumption) ?_) (fun M' hM' => ?_) | refine f_letI (fun v => ?_) | refine f_cs (fun x => ?_) (fun E => ?_) | refine f_letM (Iv_cp (by assumption) ?_) (fun M' hM' => ?_) | refine f_letM (by assumption) (fun M' hM' => ?_) | refine ih _ _ _ _ (by assumption) ?_ | refine ih _ _ _ _ ?_ ?_ | refine f_bind (ih _ _ _ _ (by assumption) ?_) (fun y hy => ?_) | refine f_bind (hd_gX12_isSign h00 (by assumption) ?_) (fun y hy => ?_) | refine f_bind2 (hd_gX12_wrong h00 (by assumption) ?_) (fun y hy1 hy2 => ?_) | refine f_bind (hd_gX12_enter h00 (by assumption) ?_) (fun y hy => ?_) | refine f_bind (hd_gX12_token h00 (by assumption) ?_) (fun y hy => ?_) | refine f_bind (hd_gX12_expression h00 (by assumption) ?_) (fun y hy => ?_) | refine f_bind (hd_gX12_need h00 (by assumption) ?_) (fun y hy => ?_)  | refine f_bindF (by assumption) ?_ (fun j hj => ?_) | refine f_bindZ (by assumption) (fun j hj hz => ?_) | refine f_some ?_ | assumption | exact okl (by assumption) | exact okw (by assumption) (by assumption) (by assumption) (by decide) | exact h00 | refine Iv_u (by assumption) ?_ | refine Iv_cp (by assumption) ?_ | refine Iv_r ?_ ?_ ?_ | refine Iv_new (by assumption) (by assumption) (by assumption) | refine Iv_th (by assumption) | refine Iv_u ?_ ?_ | refine Iv_cp ?_ ?_ | apply And.intro))
set_option maxRecDepth 100000 in
set_option maxHeartbeats 4000000 in
theorem hd_gX12_condition (h00 : okr W ρ0 0) {n : Nat} {r0 : Nat} {M : ao_M} {ρ : ao_H} (hI : Iv W M0 ρ0 M ρ) (h_r0 : okr W ρ0 r0) : ∀ z, gX12_condition n r0 M ρ = some z → Iv W M0 ρ0 z.2.1 z.2.2 := by
  unfold gX12_condition
  exact hd_fX12_condition h00 _ _ _ _ _ hI (by first | assumption | exact h00 | exact fun h => absurd h (by decide))
set_option maxRecDepth 100000 in
set_option maxHeartbeats 4000000 in
theorem hd_gX12_isWord (h00 : okr W ρ0 0) {r0 : Nat} {x1 : Int32} {M : ao_M} {ρ : ao_H} (hI : Iv W M0 ρ0 M ρ) (h_r0 : okr W ρ0 r0) : ∀ z, gX12_isWord r0 x1 M ρ = some z → Iv W M0 ρ0 z.2 ρ := by
  unfold gX12_isWord
  repeat' (with_reducible (first | exact f_none | refine f_ite (fun hc => ?_) (fun hc => ?_) | refine f_letM (Iv_u (by assumption) ?_) (fun M' hM' => ?_) | refine f_letI (fun v => ?_) | refine f_cs (fun x => ?_) (fun E => ?_) | refine f_letM (Iv_cp (by assumption) ?_) (fun M' hM' => ?_) | refine f_letM (by assumption) (fun M' hM' => ?_)  | refine f_bindF (by assumption) ?_ (fun j hj => ?_) | refine f_bindZ (by assumption) (fun j hj hz => ?_) | refine f_some ?_ | assumption | exact okl (by assumption) | exact okw (by assumption) (by assumption) (by assumption) (by decide) | exact h00 | refine Iv_u (by assumption) ?_ | refine Iv_cp (by assumption) ?_ | refine Iv_r ?_ ?_ ?_ | refine Iv_new (by assumption) (by assumption) (by assumption) | refine Iv_th (by assumption) | refine Iv_u ?_ ?_ | refine Iv_cp ?_ ?_ | apply And.intro))
set_option maxRecDepth 100000 in
set_option maxHeartbeats 4000000 in
theorem hd_fGB (h00 : okr W ρ0 0) : ∀ (n : Nat) (e : Nat) (pc : Nat) (r0 : Nat) (x1 : Int32) (x2 : Int32) (x3 : Int32) (x4 : Int32) (x5 : Int32) (x6 : Int32) (s0 : Int32) (q1 : Nat) (s1 : Int32) (s2 : Int32) (q3 : Nat) (M : ao_M) (ρ : ao_H), Iv W M0 ρ0 M ρ → okr W ρ0 r0 → okr W ρ0 q1 → okr W ρ0 q3 → ∀ z, fGB n e pc r0 x1 x2 x3 x4 x5 x6 s0 q1 s1 s2 q3 M ρ = some z → Iv W M0 ρ0 z.2.1 z.2.2 := by
  intro n
  induction n with
  | zero => intros; exact absurd (by assumption) (by simp [fGB.eq_1])
  | succ n ih =>
    intro e pc r0 x1 x2 x3 x4 x5 x6 s0 q1 s1 s2 q3 M ρ hI h_r0 h_q1 h_q3
    rw [fGB.eq_2]
    repeat' (with_reducible (first | exact f_none | refine f_ite (fun hc => ?_) (fun hc => ?_) | refine f_letM (Iv_u (by assumption) ?_) (fun M' hM' => ?_) | refine f_letI (fun v => ?_) | refine f_cs (fun x => ?_) (fun E => ?_) | refine f_letM (Iv_cp (by assumption) ?_) (fun M' hM' => ?_) | refine f_letM (by assumption) (fun M' hM' => ?_) | refine ih _ _ _ _ _ _ _ _ _ _ _ _ _ _ _ _ (by assumption) ?_ ?_ ?_ | refine ih _ _ _ _ _ _ _ _ _ _ _ _ _ _ _ _ ?_ ?_ ?_ ?_ | refine f_bind (ih _ _ _ _ _ _ _ _ _ _ _ _ _ _ _ _ (by assumption) ?_ ?_ ?_) (fun y hy => ?_) | refine f_bind (hd_gX12_isSign h00 (by assumption) ?_) (fun y hy => ?_) | refine f_bind2 (hd_gX12_wrong h00 (by assumption) ?_) (fun y hy1 hy2 => ?_) | refine f_bind (hd_gX12_enter h00 (by assumption) ?_) (fun y hy => ?_) | refine f_bind (hd_gX12_token h00 (by assumption) ?_) (fun y hy => ?_) | refine f_bind (hd_gX12_condition h00 (by assumption) ?_) (fun y hy => ?_) | refine f_bind (hd_gX12_need h00 (by assumption) ?_) (fun y hy => ?_) | refine f_bind (hd_gX12_expression h00 (by assumption) ?_) (fun y hy => ?_) | refine f_bind (hd_gX12_make h00 (by assumption) ?_) (fun y hy => ?_) | refine f_bind (hd_gX12_isWord h00 (by assumption) ?_) (fun y hy => ?_)  | refine f_bindF (by assumption) ?_ (fun j hj => ?_) | refine f_bindZ (by assumption) (fun j hj hz => ?_) | refine f_some ?_ | assumption | exact okl (by assumption) | exact okw (by assumption) (by assumption) (by assumption) (by decide) | exact h00 | refine Iv_u (by assumption) ?_ | refine Iv_cp (by assumption) ?_ | refine Iv_r ?_ ?_ ?_ | refine Iv_new (by assumption) (by assumption) (by assumption) | refine Iv_th (by assumption) | refine Iv_u ?_ ?_ | refine Iv_cp ?_ ?_ | apply And.intro))
set_option maxRecDepth 100000 in
set_option maxHeartbeats 4000000 in
theorem hd_gX12_statement (h00 : okr W ρ0 0) {n : Nat} {r0 : Nat} {M : ao_M} {ρ : ao_H} (hI : Iv W M0 ρ0 M ρ) (h_r0 : okr W ρ0 r0) : ∀ z, gX12_statement n r0 M ρ = some z → Iv W M0 ρ0 z.2.1 z.2.2 := by
  unfold gX12_statement
  exact hd_fGB h00 _ _ _ _ _ _ _ _ _ _ _ _ _ _ _ _ _ hI (by first | assumption | exact h00 | exact fun h => absurd h (by decide)) (by first | assumption | exact h00 | exact fun h => absurd h (by decide)) (by first | assumption | exact h00 | exact fun h => absurd h (by decide))
set_option maxRecDepth 100000 in
set_option maxHeartbeats 4000000 in
theorem hd_fX12_readProgram (h00 : okr W ρ0 0) : ∀ (n : Nat) (pc : Nat) (r0 : Nat) (M : ao_M) (ρ : ao_H), Iv W M0 ρ0 M ρ → okr W ρ0 r0 → ∀ z, fX12_readProgram n pc r0 M ρ = some z → Iv W M0 ρ0 z.2.1 z.2.2 := by
  intro n
  induction n with
  | zero => intros; exact absurd (by assumption) (by simp [fX12_readProgram.eq_1])
  | succ n ih =>
    intro pc r0 M ρ hI h_r0
    rw [fX12_readProgram.eq_2]
    repeat' (with_reducible (first | exact f_none | refine f_ite (fun hc => ?_) (fun hc => ?_) | refine f_letM (Iv_u (by assumption) ?_) (fun M' hM' => ?_) | refine f_letI (fun v => ?_) | refine f_cs (fun x => ?_) (fun E => ?_) | refine f_letM (Iv_cp (by assumption) ?_) (fun M' hM' => ?_) | refine f_letM (by assumption) (fun M' hM' => ?_) | refine ih _ _ _ _ (by assumption) ?_ | refine ih _ _ _ _ ?_ ?_ | refine f_bind (ih _ _ _ _ (by assumption) ?_) (fun y hy => ?_) | refine f_bind (hd_gX12_token h00 (by assumption) ?_) (fun y hy => ?_) | refine f_bind (hd_gX12_make h00 (by assumption) ?_) (fun y hy => ?_) | refine f_bind (hd_gX12_statement h00 (by assumption) ?_) (fun y hy => ?_)  | refine f_bindF (by assumption) ?_ (fun j hj => ?_) | refine f_bindZ (by assumption) (fun j hj hz => ?_) | refine f_some ?_ | assumption | exact okl (by assumption) | exact okw (by assumption) (by assumption) (by assumption) (by decide) | exact h00 | refine Iv_u (by assumption) ?_ | refine Iv_cp (by assumption) ?_ | refine Iv_r ?_ ?_ ?_ | refine Iv_new (by assumption) (by assumption) (by assumption) | refine Iv_th (by assumption) | refine Iv_u ?_ ?_ | refine Iv_cp ?_ ?_ | apply And.intro))
set_option maxRecDepth 100000 in
set_option maxHeartbeats 4000000 in
theorem hd_gX12_readProgram (h00 : okr W ρ0 0) {n : Nat} {r0 : Nat} {M : ao_M} {ρ : ao_H} (hI : Iv W M0 ρ0 M ρ) (h_r0 : okr W ρ0 r0) : ∀ z, gX12_readProgram n r0 M ρ = some z → Iv W M0 ρ0 z.2.1 z.2.2 := by
  unfold gX12_readProgram
  exact hd_fX12_readProgram h00 _ _ _ _ _ hI (by first | assumption | exact h00 | exact fun h => absurd h (by decide))
set_option maxRecDepth 100000 in
set_option maxHeartbeats 4000000 in
theorem hd_fX12_program (h00 : okr W ρ0 0) : ∀ (n : Nat) (pc : Nat) (r0 : Nat) (x1 : Int32) (x2 : Int32) (s0 : Int32) (q1 : Nat) (M : ao_M) (ρ : ao_H), Iv W M0 ρ0 M ρ → okr W ρ0 r0 → okr W ρ0 q1 → ∀ z, fX12_program n pc r0 x1 x2 s0 q1 M ρ = some z → Iv W M0 ρ0 z.2.1 z.2.2 := by
  intro n
  induction n with
  | zero => intros; exact absurd (by assumption) (by simp [fX12_program.eq_1])
  | succ n ih =>
    intro pc r0 x1 x2 s0 q1 M ρ hI h_r0 h_q1
    rw [fX12_program.eq_2]
    repeat' (with_reducible (first | exact f_none | refine f_ite (fun hc => ?_) (fun hc => ?_) | refine f_letM (Iv_u (by assumption) ?_) (fun M' hM' => ?_) | refine f_letI (fun v => ?_) | refine f_cs (fun x => ?_) (fun E => ?_) | refine f_letM (Iv_cp (by assumption) ?_) (fun M' hM' => ?_) | refine f_letM (by assumption) (fun M' hM' => ?_) | refine ih _ _ _ _ _ _ _ _ (by assumption) ?_ ?_ | refine ih _ _ _ _ _ _ _ _ ?_ ?_ ?_ | refine f_bind (ih _ _ _ _ _ _ _ _ (by assumption) ?_ ?_) (fun y hy => ?_) | refine f_bind (hd_gX12_isThread h00 (by assumption)) (fun y hy => ?_) | refine f_bind (hd_gX12_fails h00 (by assumption) ?_) (fun y hy => ?_) | refine f_bind (hd_gX12_readProgram h00 (by assumption) ?_) (fun y hy => ?_) | refine f_bind (hd_gX12_reset h00 (by assumption) ?_) (fun y hy => ?_)  | refine f_bindF (by assumption) ?_ (fun j hj => ?_) | refine f_bindZ (by assumption) (fun j hj hz => ?_) | refine f_some ?_ | assumption | exact okl (by assumption) | exact okw (by assumption) (by assumption) (by assumption) (by decide) | exact h00 | refine Iv_u (by assumption) ?_ | refine Iv_cp (by assumption) ?_ | refine Iv_r ?_ ?_ ?_ | refine Iv_new (by assumption) (by assumption) (by assumption) | refine Iv_th (by assumption) | refine Iv_u ?_ ?_ | refine Iv_cp ?_ ?_ | apply And.intro))
set_option maxRecDepth 100000 in
set_option maxHeartbeats 4000000 in
theorem hd_gX12_program (h00 : okr W ρ0 0) {n : Nat} {r0 : Nat} {x1 : Int32} {M : ao_M} {ρ : ao_H} (hI : Iv W M0 ρ0 M ρ) (h_r0 : okr W ρ0 r0) : ∀ z, gX12_program n r0 x1 M ρ = some z → Iv W M0 ρ0 z.2.1 z.2.2 := by
  unfold gX12_program
  exact hd_fX12_program h00 _ _ _ _ _ _ _ _ _ hI (by first | assumption | exact h00 | exact fun h => absurd h (by decide)) (by first | assumption | exact h00 | exact fun h => absurd h (by decide))
set_option maxRecDepth 100000 in
set_option maxHeartbeats 4000000 in
theorem hd_gX12_place (h00 : okr W ρ0 0) {r0 : Nat} {M : ao_M} {ρ : ao_H} (hI : Iv W M0 ρ0 M ρ) (h_r0 : okr W ρ0 r0) : ∀ z, gX12_place r0 M ρ = some z → Iv W M0 ρ0 z.2 ρ := by
  unfold gX12_place
  repeat' (with_reducible (first | exact f_none | refine f_ite (fun hc => ?_) (fun hc => ?_) | refine f_letM (Iv_u (by assumption) ?_) (fun M' hM' => ?_) | refine f_letI (fun v => ?_) | refine f_cs (fun x => ?_) (fun E => ?_) | refine f_letM (Iv_cp (by assumption) ?_) (fun M' hM' => ?_) | refine f_letM (by assumption) (fun M' hM' => ?_)  | refine f_bindF (by assumption) ?_ (fun j hj => ?_) | refine f_bindZ (by assumption) (fun j hj hz => ?_) | refine f_some ?_ | assumption | exact okl (by assumption) | exact okw (by assumption) (by assumption) (by assumption) (by decide) | exact h00 | refine Iv_u (by assumption) ?_ | refine Iv_cp (by assumption) ?_ | refine Iv_r ?_ ?_ ?_ | refine Iv_new (by assumption) (by assumption) (by assumption) | refine Iv_th (by assumption) | refine Iv_u ?_ ?_ | refine Iv_cp ?_ ?_ | apply And.intro))
set_option maxRecDepth 100000 in
set_option maxHeartbeats 4000000 in
theorem hd_gX12_isPlace (h00 : okr W ρ0 0) {x0 : Int32} {M : ao_M} {ρ : ao_H} (hI : Iv W M0 ρ0 M ρ)  : ∀ z, gX12_isPlace x0 M ρ = some z → Iv W M0 ρ0 z.2 ρ := by
  unfold gX12_isPlace
  repeat' (with_reducible (first | exact f_none | refine f_ite (fun hc => ?_) (fun hc => ?_) | refine f_letM (Iv_u (by assumption) ?_) (fun M' hM' => ?_) | refine f_letI (fun v => ?_) | refine f_cs (fun x => ?_) (fun E => ?_) | refine f_letM (Iv_cp (by assumption) ?_) (fun M' hM' => ?_) | refine f_letM (by assumption) (fun M' hM' => ?_)  | refine f_bindF (by assumption) ?_ (fun j hj => ?_) | refine f_bindZ (by assumption) (fun j hj hz => ?_) | refine f_some ?_ | assumption | exact okl (by assumption) | exact okw (by assumption) (by assumption) (by assumption) (by decide) | exact h00 | refine Iv_u (by assumption) ?_ | refine Iv_cp (by assumption) ?_ | refine Iv_r ?_ ?_ ?_ | refine Iv_new (by assumption) (by assumption) (by assumption) | refine Iv_th (by assumption) | refine Iv_u ?_ ?_ | refine Iv_cp ?_ ?_ | apply And.intro))
set_option maxRecDepth 100000 in
set_option maxHeartbeats 4000000 in
theorem hd_fX12_longer (h00 : okr W ρ0 0) : ∀ (n : Nat) (pc : Nat) (r0 : Nat) (r1 : Nat) (x2 : Int32) (q0 : Nat) (M : ao_M) (ρ : ao_H), Iv W M0 ρ0 M ρ → okr W ρ0 r0 → ((pc = 9) → W r1) → ((pc = 6) → W q0) → ∀ z, fX12_longer n pc r0 r1 x2 q0 M ρ = some z → (Iv W M0 ρ0 z.2.1 z.2.2 ∧ W z.1) := by
  intro n
  induction n with
  | zero => intros; exact absurd (by assumption) (by simp [fX12_longer.eq_1])
  | succ n ih =>
    intro pc r0 r1 x2 q0 M ρ hI h_r0 h_r1 h_q0
    rw [fX12_longer.eq_2]
    repeat' (with_reducible (first | exact f_none | refine f_ite (fun hc => ?_) (fun hc => ?_) | refine f_letM (Iv_u (by assumption) ?_) (fun M' hM' => ?_) | refine f_letI (fun v => ?_) | refine f_cs (fun x => ?_) (fun E => ?_) | refine f_letM (Iv_cp (by assumption) ?_) (fun M' hM' => ?_) | refine f_letM (by assumption) (fun M' hM' => ?_) | refine ih _ _ _ _ _ _ _ (by assumption) ?_ ?_ ?_ | refine ih _ _ _ _ _ _ _ ?_ ?_ ?_ ?_ | refine f_bind (ih _ _ _ _ _ _ _ (by assumption) ?_ ?_ ?_) (fun y hy => ?_) | exact h_r1 (by omega) | exact fun _ => h_r1 (by omega) | exact h_q0 (by omega) | exact fun _ => h_q0 (by omega) | exact fun _ => by assumption | exact fun h => absurd h (by decide)  | refine f_bindF (by assumption) ?_ (fun j hj => ?_) | refine f_bindZ (by assumption) (fun j hj hz => ?_) | refine f_some ?_ | assumption | exact okl (by assumption) | exact okw (by assumption) (by assumption) (by assumption) (by decide) | exact h00 | refine Iv_u (by assumption) ?_ | refine Iv_cp (by assumption) ?_ | refine Iv_r ?_ ?_ ?_ | refine Iv_new (by assumption) (by assumption) (by assumption) | refine Iv_th (by assumption) | refine Iv_u ?_ ?_ | refine Iv_cp ?_ ?_ | apply And.intro))
set_option maxRecDepth 100000 in
set_option maxHeartbeats 4000000 in
theorem hd_gX12_longer (h00 : okr W ρ0 0) {n : Nat} {r0 : Nat} {M : ao_M} {ρ : ao_H} (hI : Iv W M0 ρ0 M ρ) (h_r0 : okr W ρ0 r0) : ∀ z, gX12_longer n r0 M ρ = some z → (Iv W M0 ρ0 z.2.1 z.2.2 ∧ W z.1) := by
  unfold gX12_longer
  exact hd_fX12_longer h00 _ _ _ _ _ _ _ _ hI (by first | assumption | exact h00 | exact fun h => absurd h (by decide)) (by first | assumption | exact h00 | exact fun h => absurd h (by decide)) (by first | assumption | exact h00 | exact fun h => absurd h (by decide))
set_option maxRecDepth 100000 in
set_option maxHeartbeats 4000000 in
theorem hd_fX12_remember (h00 : okr W ρ0 0) : ∀ (n : Nat) (pc : Nat) (r0 : Nat) (x1 : Int32) (q0 : Nat) (q1 : Nat) (M : ao_M) (ρ : ao_H), Iv W M0 ρ0 M ρ → okr W ρ0 r0 → ((pc = 20 ∨ pc = 31 ∨ pc = 42) → W q0) → okr W ρ0 q1 → ∀ z, fX12_remember n pc r0 x1 q0 q1 M ρ = some z → Iv W M0 ρ0 z.1 z.2 := by
  intro n
  induction n with
  | zero => intros; exact absurd (by assumption) (by simp [fX12_remember.eq_1])
  | succ n ih =>
    intro pc r0 x1 q0 q1 M ρ hI h_r0 h_q0 h_q1
    rw [fX12_remember.eq_2]
    repeat' (with_reducible (first | exact f_none | refine f_ite (fun hc => ?_) (fun hc => ?_) | refine f_letM (Iv_u (by assumption) ?_) (fun M' hM' => ?_) | refine f_letI (fun v => ?_) | refine f_cs (fun x => ?_) (fun E => ?_) | refine f_letM (Iv_cp (by assumption) ?_) (fun M' hM' => ?_) | refine f_letM (by assumption) (fun M' hM' => ?_) | refine ih _ _ _ _ _ _ _ (by assumption) ?_ ?_ ?_ | refine ih _ _ _ _ _ _ _ ?_ ?_ ?_ ?_ | refine f_bind (ih _ _ _ _ _ _ _ (by assumption) ?_ ?_ ?_) (fun y hy => ?_) | refine f_bind2 (hd_gX12_longer h00 (by assumption) ?_) (fun y hy1 hy2 => ?_) | exact h_q0 (by omega) | exact fun _ => h_q0 (by omega) | exact fun _ => by assumption | exact fun h => absurd h (by decide)  | refine f_bindF (by assumption) ?_ (fun j hj => ?_) | refine f_bindZ (by assumption) (fun j hj hz => ?_) | refine f_some ?_ | assumption | exact okl (by assumption) | exact okw (by assumption) (by assumption) (by assumption) (by decide) | exact h00 | refine Iv_u (by assumption) ?_ | refine Iv_cp (by assumption) ?_ | refine Iv_r ?_ ?_ ?_ | refine Iv_new (by assumption) (by assumption) (by assumption) | refine Iv_th (by assumption) | refine Iv_u ?_ ?_ | refine Iv_cp ?_ ?_ | apply And.intro))
set_option maxRecDepth 100000 in
set_option maxHeartbeats 4000000 in
theorem hd_gX12_remember (h00 : okr W ρ0 0) {n : Nat} {r0 : Nat} {x1 : Int32} {M : ao_M} {ρ : ao_H} (hI : Iv W M0 ρ0 M ρ) (h_r0 : okr W ρ0 r0) : ∀ z, gX12_remember n r0 x1 M ρ = some z → Iv W M0 ρ0 z.1 z.2 := by
  unfold gX12_remember
  exact hd_fX12_remember h00 _ _ _ _ _ _ _ _ hI (by first | assumption | exact h00 | exact fun h => absurd h (by decide)) (by first | assumption | exact h00 | exact fun h => absurd h (by decide)) (by first | assumption | exact h00 | exact fun h => absurd h (by decide))
set_option maxRecDepth 100000 in
set_option maxHeartbeats 4000000 in
theorem hd_fX12_change (h00 : okr W ρ0 0) : ∀ (n : Nat) (pc : Nat) (r0 : Nat) (x1 : Int32) (x2 : Int32) (M : ao_M) (ρ : ao_H), Iv W M0 ρ0 M ρ → okr W ρ0 r0 → ∀ z, fX12_change n pc r0 x1 x2 M ρ = some z → Iv W M0 ρ0 z.1 z.2 := by
  intro n
  induction n with
  | zero => intros; exact absurd (by assumption) (by simp [fX12_change.eq_1])
  | succ n ih =>
    intro pc r0 x1 x2 M ρ hI h_r0
    rw [fX12_change.eq_2]
    repeat' (with_reducible (first | exact f_none | refine f_ite (fun hc => ?_) (fun hc => ?_) | refine f_letM (Iv_u (by assumption) ?_) (fun M' hM' => ?_) | refine f_letI (fun v => ?_) | refine f_cs (fun x => ?_) (fun E => ?_) | refine f_letM (Iv_cp (by assumption) ?_) (fun M' hM' => ?_) | refine f_letM (by assumption) (fun M' hM' => ?_) | refine ih _ _ _ _ _ _ (by assumption) ?_ | refine ih _ _ _ _ _ _ ?_ ?_ | refine f_bind (ih _ _ _ _ _ _ (by assumption) ?_) (fun y hy => ?_) | refine f_bind (hd_gX12_remember h00 (by assumption) ?_) (fun y hy => ?_)  | refine f_bindF (by assumption) ?_ (fun j hj => ?_) | refine f_bindZ (by assumption) (fun j hj hz => ?_) | refine f_some ?_ | assumption | exact okl (by assumption) | exact okw (by assumption) (by assumption) (by assumption) (by decide) | exact h00 | refine Iv_u (by assumption) ?_ | refine Iv_cp (by assumption) ?_ | refine Iv_r ?_ ?_ ?_ | refine Iv_new (by assumption) (by assumption) (by assumption) | refine Iv_th (by assumption) | refine Iv_u ?_ ?_ | refine Iv_cp ?_ ?_ | apply And.intro))
set_option maxRecDepth 100000 in
set_option maxHeartbeats 4000000 in
theorem hd_gX12_change (h00 : okr W ρ0 0) {n : Nat} {r0 : Nat} {x1 : Int32} {x2 : Int32} {M : ao_M} {ρ : ao_H} (hI : Iv W M0 ρ0 M ρ) (h_r0 : okr W ρ0 r0) : ∀ z, gX12_change n r0 x1 x2 M ρ = some z → Iv W M0 ρ0 z.1 z.2 := by
  unfold gX12_change
  exact hd_fX12_change h00 _ _ _ _ _ _ _ hI (by first | assumption | exact h00 | exact fun h => absurd h (by decide))
set_option maxRecDepth 100000 in
set_option maxHeartbeats 4000000 in
theorem hd_fX12_put (h00 : okr W ρ0 0) : ∀ (n : Nat) (pc : Nat) (r0 : Nat) (x1 : Int32) (x2 : Int32) (s0 : Int32) (q1 : Nat) (M : ao_M) (ρ : ao_H), Iv W M0 ρ0 M ρ → okr W ρ0 r0 → okr W ρ0 q1 → ∀ z, fX12_put n pc r0 x1 x2 s0 q1 M ρ = some z → Iv W M0 ρ0 z.2.1 z.2.2 := by
  intro n
  induction n with
  | zero => intros; exact absurd (by assumption) (by simp [fX12_put.eq_1])
  | succ n ih =>
    intro pc r0 x1 x2 s0 q1 M ρ hI h_r0 h_q1
    rw [fX12_put.eq_2]
    repeat' (with_reducible (first | exact f_none | refine f_ite (fun hc => ?_) (fun hc => ?_) | refine f_letM (Iv_u (by assumption) ?_) (fun M' hM' => ?_) | refine f_letI (fun v => ?_) | refine f_cs (fun x => ?_) (fun E => ?_) | refine f_letM (Iv_cp (by assumption) ?_) (fun M' hM' => ?_) | refine f_letM (by assumption) (fun M' hM' => ?_) | refine ih _ _ _ _ _ _ _ _ (by assumption) ?_ ?_ | refine ih _ _ _ _ _ _ _ _ ?_ ?_ ?_ | refine f_bind (ih _ _ _ _ _ _ _ _ (by assumption) ?_ ?_) (fun y hy => ?_) | refine f_bind (hd_gX12_isPlace h00 (by assumption)) (fun y hy => ?_) | refine f_bind (hd_gX12_fails h00 (by assumption) ?_) (fun y hy => ?_) | refine f_bind (hd_gX12_change h00 (by assumption) ?_) (fun y hy => ?_)  | refine f_bindF (by assumption) ?_ (fun j hj => ?_) | refine f_bindZ (by assumption) (fun j hj hz => ?_) | refine f_some ?_ | assumption | exact okl (by assumption) | exact okw (by assumption) (by assumption) (by assumption) (by decide) | exact h00 | refine Iv_u (by assumption) ?_ | refine Iv_cp (by assumption) ?_ | refine Iv_r ?_ ?_ ?_ | refine Iv_new (by assumption) (by assumption) (by assumption) | refine Iv_th (by assumption) | refine Iv_u ?_ ?_ | refine Iv_cp ?_ ?_ | apply And.intro))
set_option maxRecDepth 100000 in
set_option maxHeartbeats 4000000 in
theorem hd_gX12_put (h00 : okr W ρ0 0) {n : Nat} {r0 : Nat} {x1 : Int32} {x2 : Int32} {M : ao_M} {ρ : ao_H} (hI : Iv W M0 ρ0 M ρ) (h_r0 : okr W ρ0 r0) : ∀ z, gX12_put n r0 x1 x2 M ρ = some z → Iv W M0 ρ0 z.2.1 z.2.2 := by
  unfold gX12_put
  exact hd_fX12_put h00 _ _ _ _ _ _ _ _ _ hI (by first | assumption | exact h00 | exact fun h => absurd h (by decide)) (by first | assumption | exact h00 | exact fun h => absurd h (by decide))
set_option maxRecDepth 100000 in
set_option maxHeartbeats 4000000 in
theorem hd_fX12_isEager (h00 : okr W ρ0 0) : ∀ (n : Nat) (pc : Nat) (r0 : Nat) (M : ao_M) (ρ : ao_H), Iv W M0 ρ0 M ρ → okr W ρ0 r0 → ∀ z, fX12_isEager n pc r0 M ρ = some z → Iv W M0 ρ0 z.2 ρ := by
  intro n
  induction n with
  | zero => intros; exact absurd (by assumption) (by simp [fX12_isEager.eq_1])
  | succ n ih =>
    intro pc r0 M ρ hI h_r0
    rw [fX12_isEager.eq_2]
    repeat' (with_reducible (first | exact f_none | refine f_ite (fun hc => ?_) (fun hc => ?_) | refine f_letM (Iv_u (by assumption) ?_) (fun M' hM' => ?_) | refine f_letI (fun v => ?_) | refine f_cs (fun x => ?_) (fun E => ?_) | refine f_letM (Iv_cp (by assumption) ?_) (fun M' hM' => ?_) | refine f_letM (by assumption) (fun M' hM' => ?_) | refine ih _ _ _ _ (by assumption) ?_ | refine ih _ _ _ _ ?_ ?_ | refine f_bind (ih _ _ _ _ (by assumption) ?_) (fun y hy => ?_)  | refine f_bindF (by assumption) ?_ (fun j hj => ?_) | refine f_bindZ (by assumption) (fun j hj hz => ?_) | refine f_some ?_ | assumption | exact okl (by assumption) | exact okw (by assumption) (by assumption) (by assumption) (by decide) | exact h00 | refine Iv_u (by assumption) ?_ | refine Iv_cp (by assumption) ?_ | refine Iv_r ?_ ?_ ?_ | refine Iv_new (by assumption) (by assumption) (by assumption) | refine Iv_th (by assumption) | refine Iv_u ?_ ?_ | refine Iv_cp ?_ ?_ | apply And.intro))
set_option maxRecDepth 100000 in
set_option maxHeartbeats 4000000 in
theorem hd_gX12_isEager (h00 : okr W ρ0 0) {n : Nat} {r0 : Nat} {M : ao_M} {ρ : ao_H} (hI : Iv W M0 ρ0 M ρ) (h_r0 : okr W ρ0 r0) : ∀ z, gX12_isEager n r0 M ρ = some z → Iv W M0 ρ0 z.2 ρ := by
  unfold gX12_isEager
  exact hd_fX12_isEager h00 _ _ _ _ _ hI (by first | assumption | exact h00 | exact fun h => absurd h (by decide))
set_option maxRecDepth 100000 in
set_option maxHeartbeats 4000000 in
theorem hd_fX12_wakes (h00 : okr W ρ0 0) : ∀ (n : Nat) (pc : Nat) (r0 : Nat) (x1 : Int32) (x2 : Int32) (x3 : Int32) (M : ao_M) (ρ : ao_H), Iv W M0 ρ0 M ρ → okr W ρ0 r0 → ∀ z, fX12_wakes n pc r0 x1 x2 x3 M ρ = some z → Iv W M0 ρ0 z.2 ρ := by
  intro n
  induction n with
  | zero => intros; exact absurd (by assumption) (by simp [fX12_wakes.eq_1])
  | succ n ih =>
    intro pc r0 x1 x2 x3 M ρ hI h_r0
    rw [fX12_wakes.eq_2]
    repeat' (with_reducible (first | exact f_none | refine f_ite (fun hc => ?_) (fun hc => ?_) | refine f_letM (Iv_u (by assumption) ?_) (fun M' hM' => ?_) | refine f_letI (fun v => ?_) | refine f_cs (fun x => ?_) (fun E => ?_) | refine f_letM (Iv_cp (by assumption) ?_) (fun M' hM' => ?_) | refine f_letM (by assumption) (fun M' hM' => ?_) | refine ih _ _ _ _ _ _ _ (by assumption) ?_ | refine ih _ _ _ _ _ _ _ ?_ ?_ | refine f_bind (ih _ _ _ _ _ _ _ (by assumption) ?_) (fun y hy => ?_) | refine f_bind (hd_gX12_cell h00 (by assumption) ?_) (fun y hy => ?_) | refine f_bind (hd_gX12_isEager h00 (by assumption) ?_) (fun y hy => ?_)  | refine f_bindF (by assumption) ?_ (fun j hj => ?_) | refine f_bindZ (by assumption) (fun j hj hz => ?_) | refine f_some ?_ | assumption | exact okl (by assumption) | exact okw (by assumption) (by assumption) (by assumption) (by decide) | exact h00 | refine Iv_u (by assumption) ?_ | refine Iv_cp (by assumption) ?_ | refine Iv_r ?_ ?_ ?_ | refine Iv_new (by assumption) (by assumption) (by assumption) | refine Iv_th (by assumption) | refine Iv_u ?_ ?_ | refine Iv_cp ?_ ?_ | apply And.intro))
set_option maxRecDepth 100000 in
set_option maxHeartbeats 4000000 in
theorem hd_gX12_wakes (h00 : okr W ρ0 0) {n : Nat} {r0 : Nat} {x1 : Int32} {M : ao_M} {ρ : ao_H} (hI : Iv W M0 ρ0 M ρ) (h_r0 : okr W ρ0 r0) : ∀ z, gX12_wakes n r0 x1 M ρ = some z → Iv W M0 ρ0 z.2 ρ := by
  unfold gX12_wakes
  exact hd_fX12_wakes h00 _ _ _ _ _ _ _ _ hI (by first | assumption | exact h00 | exact fun h => absurd h (by decide))
set_option maxRecDepth 100000 in
set_option maxHeartbeats 4000000 in
theorem hd_fX12_isBusy (h00 : okr W ρ0 0) : ∀ (n : Nat) (pc : Nat) (r0 : Nat) (x1 : Int32) (x2 : Int32) (M : ao_M) (ρ : ao_H), Iv W M0 ρ0 M ρ → okr W ρ0 r0 → ∀ z, fX12_isBusy n pc r0 x1 x2 M ρ = some z → Iv W M0 ρ0 z.2 ρ := by
  intro n
  induction n with
  | zero => intros; exact absurd (by assumption) (by simp [fX12_isBusy.eq_1])
  | succ n ih =>
    intro pc r0 x1 x2 M ρ hI h_r0
    rw [fX12_isBusy.eq_2]
    repeat' (with_reducible (first | exact f_none | refine f_ite (fun hc => ?_) (fun hc => ?_) | refine f_letM (Iv_u (by assumption) ?_) (fun M' hM' => ?_) | refine f_letI (fun v => ?_) | refine f_cs (fun x => ?_) (fun E => ?_) | refine f_letM (Iv_cp (by assumption) ?_) (fun M' hM' => ?_) | refine f_letM (by assumption) (fun M' hM' => ?_) | refine ih _ _ _ _ _ _ (by assumption) ?_ | refine ih _ _ _ _ _ _ ?_ ?_ | refine f_bind (ih _ _ _ _ _ _ (by assumption) ?_) (fun y hy => ?_)  | refine f_bindF (by assumption) ?_ (fun j hj => ?_) | refine f_bindZ (by assumption) (fun j hj hz => ?_) | refine f_some ?_ | assumption | exact okl (by assumption) | exact okw (by assumption) (by assumption) (by assumption) (by decide) | exact h00 | refine Iv_u (by assumption) ?_ | refine Iv_cp (by assumption) ?_ | refine Iv_r ?_ ?_ ?_ | refine Iv_new (by assumption) (by assumption) (by assumption) | refine Iv_th (by assumption) | refine Iv_u ?_ ?_ | refine Iv_cp ?_ ?_ | apply And.intro))
set_option maxRecDepth 100000 in
set_option maxHeartbeats 4000000 in
theorem hd_gX12_isBusy (h00 : okr W ρ0 0) {n : Nat} {r0 : Nat} {x1 : Int32} {M : ao_M} {ρ : ao_H} (hI : Iv W M0 ρ0 M ρ) (h_r0 : okr W ρ0 r0) : ∀ z, gX12_isBusy n r0 x1 M ρ = some z → Iv W M0 ρ0 z.2 ρ := by
  unfold gX12_isBusy
  exact hd_fX12_isBusy h00 _ _ _ _ _ _ _ hI (by first | assumption | exact h00 | exact fun h => absurd h (by decide))
set_option maxRecDepth 100000 in
set_option maxHeartbeats 4000000 in
theorem hd_fX12_takeBack (h00 : okr W ρ0 0) : ∀ (n : Nat) (pc : Nat) (r0 : Nat) (x1 : Int32) (x2 : Int32) (x3 : Int32) (x4 : Int32) (M : ao_M) (ρ : ao_H), Iv W M0 ρ0 M ρ → okr W ρ0 r0 → ∀ z, fX12_takeBack n pc r0 x1 x2 x3 x4 M ρ = some z → Iv W M0 ρ0 z ρ := by
  intro n
  induction n with
  | zero => intros; exact absurd (by assumption) (by simp [fX12_takeBack.eq_1])
  | succ n ih =>
    intro pc r0 x1 x2 x3 x4 M ρ hI h_r0
    rw [fX12_takeBack.eq_2]
    repeat' (with_reducible (first | exact f_none | refine f_ite (fun hc => ?_) (fun hc => ?_) | refine f_letM (Iv_u (by assumption) ?_) (fun M' hM' => ?_) | refine f_letI (fun v => ?_) | refine f_cs (fun x => ?_) (fun E => ?_) | refine f_letM (Iv_cp (by assumption) ?_) (fun M' hM' => ?_) | refine f_letM (by assumption) (fun M' hM' => ?_) | refine ih _ _ _ _ _ _ _ _ (by assumption) ?_ | refine ih _ _ _ _ _ _ _ _ ?_ ?_ | refine f_bind (ih _ _ _ _ _ _ _ _ (by assumption) ?_) (fun y hy => ?_) | refine f_bind (hd_gX12_level h00 (by assumption) ?_) (fun y hy => ?_) | refine f_bind (hd_gX12_cell h00 (by assumption) ?_) (fun y hy => ?_) | refine f_bind (hd_gX12_isEager h00 (by assumption) ?_) (fun y hy => ?_)  | refine f_bindF (by assumption) ?_ (fun j hj => ?_) | refine f_bindZ (by assumption) (fun j hj hz => ?_) | refine f_some ?_ | assumption | exact okl (by assumption) | exact okw (by assumption) (by assumption) (by assumption) (by decide) | exact h00 | refine Iv_u (by assumption) ?_ | refine Iv_cp (by assumption) ?_ | refine Iv_r ?_ ?_ ?_ | refine Iv_new (by assumption) (by assumption) (by assumption) | refine Iv_th (by assumption) | refine Iv_u ?_ ?_ | refine Iv_cp ?_ ?_ | apply And.intro))
set_option maxRecDepth 100000 in
set_option maxHeartbeats 4000000 in
theorem hd_gX12_takeBack (h00 : okr W ρ0 0) {n : Nat} {r0 : Nat} {x1 : Int32} {x2 : Int32} {M : ao_M} {ρ : ao_H} (hI : Iv W M0 ρ0 M ρ) (h_r0 : okr W ρ0 r0) : ∀ z, gX12_takeBack n r0 x1 x2 M ρ = some z → Iv W M0 ρ0 z ρ := by
  unfold gX12_takeBack
  exact hd_fX12_takeBack h00 _ _ _ _ _ _ _ _ _ hI (by first | assumption | exact h00 | exact fun h => absurd h (by decide))
set_option maxRecDepth 100000 in
set_option maxHeartbeats 4000000 in
theorem hd_fX12_dropReads (h00 : okr W ρ0 0) : ∀ (n : Nat) (pc : Nat) (r0 : Nat) (x1 : Int32) (x2 : Int32) (x3 : Int32) (M : ao_M) (ρ : ao_H), Iv W M0 ρ0 M ρ → okr W ρ0 r0 → ∀ z, fX12_dropReads n pc r0 x1 x2 x3 M ρ = some z → Iv W M0 ρ0 z ρ := by
  intro n
  induction n with
  | zero => intros; exact absurd (by assumption) (by simp [fX12_dropReads.eq_1])
  | succ n ih =>
    intro pc r0 x1 x2 x3 M ρ hI h_r0
    rw [fX12_dropReads.eq_2]
    repeat' (with_reducible (first | exact f_none | refine f_ite (fun hc => ?_) (fun hc => ?_) | refine f_letM (Iv_u (by assumption) ?_) (fun M' hM' => ?_) | refine f_letI (fun v => ?_) | refine f_cs (fun x => ?_) (fun E => ?_) | refine f_letM (Iv_cp (by assumption) ?_) (fun M' hM' => ?_) | refine f_letM (by assumption) (fun M' hM' => ?_) | refine ih _ _ _ _ _ _ _ (by assumption) ?_ | refine ih _ _ _ _ _ _ _ ?_ ?_ | refine f_bind (ih _ _ _ _ _ _ _ (by assumption) ?_) (fun y hy => ?_) | refine f_bind (hd_gX12_cell h00 (by assumption) ?_) (fun y hy => ?_)  | refine f_bindF (by assumption) ?_ (fun j hj => ?_) | refine f_bindZ (by assumption) (fun j hj hz => ?_) | refine f_some ?_ | assumption | exact okl (by assumption) | exact okw (by assumption) (by assumption) (by assumption) (by decide) | exact h00 | refine Iv_u (by assumption) ?_ | refine Iv_cp (by assumption) ?_ | refine Iv_r ?_ ?_ ?_ | refine Iv_new (by assumption) (by assumption) (by assumption) | refine Iv_th (by assumption) | refine Iv_u ?_ ?_ | refine Iv_cp ?_ ?_ | apply And.intro))
set_option maxRecDepth 100000 in
set_option maxHeartbeats 4000000 in
theorem hd_gX12_dropReads (h00 : okr W ρ0 0) {n : Nat} {r0 : Nat} {x1 : Int32} {x2 : Int32} {M : ao_M} {ρ : ao_H} (hI : Iv W M0 ρ0 M ρ) (h_r0 : okr W ρ0 r0) : ∀ z, gX12_dropReads n r0 x1 x2 M ρ = some z → Iv W M0 ρ0 z ρ := by
  unfold gX12_dropReads
  exact hd_fX12_dropReads h00 _ _ _ _ _ _ _ _ hI (by first | assumption | exact h00 | exact fun h => absurd h (by decide))
set_option maxRecDepth 100000 in
set_option maxHeartbeats 4000000 in
theorem hd_fX12_giveReads (h00 : okr W ρ0 0) : ∀ (n : Nat) (pc : Nat) (r0 : Nat) (x1 : Int32) (x2 : Int32) (x3 : Int32) (x4 : Int32) (M : ao_M) (ρ : ao_H), Iv W M0 ρ0 M ρ → okr W ρ0 r0 → ∀ z, fX12_giveReads n pc r0 x1 x2 x3 x4 M ρ = some z → Iv W M0 ρ0 z ρ := by
  intro n
  induction n with
  | zero => intros; exact absurd (by assumption) (by simp [fX12_giveReads.eq_1])
  | succ n ih =>
    intro pc r0 x1 x2 x3 x4 M ρ hI h_r0
    rw [fX12_giveReads.eq_2]
    repeat' (with_reducible (first | exact f_none | refine f_ite (fun hc => ?_) (fun hc => ?_) | refine f_letM (Iv_u (by assumption) ?_) (fun M' hM' => ?_) | refine f_letI (fun v => ?_) | refine f_cs (fun x => ?_) (fun E => ?_) | refine f_letM (Iv_cp (by assumption) ?_) (fun M' hM' => ?_) | refine f_letM (by assumption) (fun M' hM' => ?_) | refine ih _ _ _ _ _ _ _ _ (by assumption) ?_ | refine ih _ _ _ _ _ _ _ _ ?_ ?_ | refine f_bind (ih _ _ _ _ _ _ _ _ (by assumption) ?_) (fun y hy => ?_) | refine f_bind (hd_gX12_cell h00 (by assumption) ?_) (fun y hy => ?_)  | refine f_bindF (by assumption) ?_ (fun j hj => ?_) | refine f_bindZ (by assumption) (fun j hj hz => ?_) | refine f_some ?_ | assumption | exact okl (by assumption) | exact okw (by assumption) (by assumption) (by assumption) (by decide) | exact h00 | refine Iv_u (by assumption) ?_ | refine Iv_cp (by assumption) ?_ | refine Iv_r ?_ ?_ ?_ | refine Iv_new (by assumption) (by assumption) (by assumption) | refine Iv_th (by assumption) | refine Iv_u ?_ ?_ | refine Iv_cp ?_ ?_ | apply And.intro))
set_option maxRecDepth 100000 in
set_option maxHeartbeats 4000000 in
theorem hd_gX12_giveReads (h00 : okr W ρ0 0) {n : Nat} {r0 : Nat} {x1 : Int32} {x2 : Int32} {M : ao_M} {ρ : ao_H} (hI : Iv W M0 ρ0 M ρ) (h_r0 : okr W ρ0 r0) : ∀ z, gX12_giveReads n r0 x1 x2 M ρ = some z → Iv W M0 ρ0 z ρ := by
  unfold gX12_giveReads
  exact hd_fX12_giveReads h00 _ _ _ _ _ _ _ _ _ hI (by first | assumption | exact h00 | exact fun h => absurd h (by decide))
set_option maxRecDepth 100000 in
set_option maxHeartbeats 4000000 in
theorem hd_fX12_takeBackTo (h00 : okr W ρ0 0) : ∀ (n : Nat) (pc : Nat) (r0 : Nat) (x1 : Int32) (x2 : Int32) (x3 : Int32) (x4 : Int32) (M : ao_M) (ρ : ao_H), Iv W M0 ρ0 M ρ → okr W ρ0 r0 → ∀ z, fX12_takeBackTo n pc r0 x1 x2 x3 x4 M ρ = some z → Iv W M0 ρ0 z ρ := by
  intro n
  induction n with
  | zero => intros; exact absurd (by assumption) (by simp [fX12_takeBackTo.eq_1])
  | succ n ih =>
    intro pc r0 x1 x2 x3 x4 M ρ hI h_r0
    rw [fX12_takeBackTo.eq_2]
    repeat' (with_reducible (first | exact f_none | refine f_ite (fun hc => ?_) (fun hc => ?_) | refine f_letM (Iv_u (by assumption) ?_) (fun M' hM' => ?_) | refine f_letI (fun v => ?_) | refine f_cs (fun x => ?_) (fun E => ?_) | refine f_letM (Iv_cp (by assumption) ?_) (fun M' hM' => ?_) | refine f_letM (by assumption) (fun M' hM' => ?_) | refine ih _ _ _ _ _ _ _ _ (by assumption) ?_ | refine ih _ _ _ _ _ _ _ _ ?_ ?_ | refine f_bind (ih _ _ _ _ _ _ _ _ (by assumption) ?_) (fun y hy => ?_) | refine f_bind (hd_gX12_takeBack h00 (by assumption) ?_) (fun y hy => ?_) | refine f_bind (hd_gX12_dropReads h00 (by assumption) ?_) (fun y hy => ?_) | refine f_bind (hd_gX12_giveReads h00 (by assumption) ?_) (fun y hy => ?_)  | refine f_bindF (by assumption) ?_ (fun j hj => ?_) | refine f_bindZ (by assumption) (fun j hj hz => ?_) | refine f_some ?_ | assumption | exact okl (by assumption) | exact okw (by assumption) (by assumption) (by assumption) (by decide) | exact h00 | refine Iv_u (by assumption) ?_ | refine Iv_cp (by assumption) ?_ | refine Iv_r ?_ ?_ ?_ | refine Iv_new (by assumption) (by assumption) (by assumption) | refine Iv_th (by assumption) | refine Iv_u ?_ ?_ | refine Iv_cp ?_ ?_ | apply And.intro))
set_option maxRecDepth 100000 in
set_option maxHeartbeats 4000000 in
theorem hd_gX12_takeBackTo (h00 : okr W ρ0 0) {n : Nat} {r0 : Nat} {x1 : Int32} {x2 : Int32} {x3 : Int32} {M : ao_M} {ρ : ao_H} (hI : Iv W M0 ρ0 M ρ) (h_r0 : okr W ρ0 r0) : ∀ z, gX12_takeBackTo n r0 x1 x2 x3 M ρ = some z → Iv W M0 ρ0 z ρ := by
  unfold gX12_takeBackTo
  exact hd_fX12_takeBackTo h00 _ _ _ _ _ _ _ _ _ hI (by first | assumption | exact h00 | exact fun h => absurd h (by decide))
set_option maxRecDepth 100000 in
set_option maxHeartbeats 4000000 in
theorem hd_fX12_free (h00 : okr W ρ0 0) : ∀ (n : Nat) (pc : Nat) (r0 : Nat) (x1 : Int32) (x2 : Int32) (x3 : Int32) (M : ao_M) (ρ : ao_H), Iv W M0 ρ0 M ρ → okr W ρ0 r0 → ∀ z, fX12_free n pc r0 x1 x2 x3 M ρ = some z → Iv W M0 ρ0 z.1 z.2 := by
  intro n
  induction n with
  | zero => intros; exact absurd (by assumption) (by simp [fX12_free.eq_1])
  | succ n ih =>
    intro pc r0 x1 x2 x3 M ρ hI h_r0
    rw [fX12_free.eq_2]
    repeat' (with_reducible (first | exact f_none | refine f_ite (fun hc => ?_) (fun hc => ?_) | refine f_letM (Iv_u (by assumption) ?_) (fun M' hM' => ?_) | refine f_letI (fun v => ?_) | refine f_cs (fun x => ?_) (fun E => ?_) | refine f_letM (Iv_cp (by assumption) ?_) (fun M' hM' => ?_) | refine f_letM (by assumption) (fun M' hM' => ?_) | refine ih _ _ _ _ _ _ _ (by assumption) ?_ | refine ih _ _ _ _ _ _ _ ?_ ?_ | refine f_bind (ih _ _ _ _ _ _ _ (by assumption) ?_) (fun y hy => ?_) | refine f_bind (hd_gX12_isEager h00 (by assumption) ?_) (fun y hy => ?_) | refine f_bind (hd_gX12_remember h00 (by assumption) ?_) (fun y hy => ?_)  | refine f_bindF (by assumption) ?_ (fun j hj => ?_) | refine f_bindZ (by assumption) (fun j hj hz => ?_) | refine f_some ?_ | assumption | exact okl (by assumption) | exact okw (by assumption) (by assumption) (by assumption) (by decide) | exact h00 | refine Iv_u (by assumption) ?_ | refine Iv_cp (by assumption) ?_ | refine Iv_r ?_ ?_ ?_ | refine Iv_new (by assumption) (by assumption) (by assumption) | refine Iv_th (by assumption) | refine Iv_u ?_ ?_ | refine Iv_cp ?_ ?_ | apply And.intro))
set_option maxRecDepth 100000 in
set_option maxHeartbeats 4000000 in
theorem hd_gX12_free (h00 : okr W ρ0 0) {n : Nat} {r0 : Nat} {x1 : Int32} {M : ao_M} {ρ : ao_H} (hI : Iv W M0 ρ0 M ρ) (h_r0 : okr W ρ0 r0) : ∀ z, gX12_free n r0 x1 M ρ = some z → Iv W M0 ρ0 z.1 z.2 := by
  unfold gX12_free
  exact hd_fX12_free h00 _ _ _ _ _ _ _ _ hI (by first | assumption | exact h00 | exact fun h => absurd h (by decide))
set_option maxRecDepth 100000 in
set_option maxHeartbeats 4000000 in
theorem hd_fX12_restart (h00 : okr W ρ0 0) : ∀ (n : Nat) (pc : Nat) (r0 : Nat) (x1 : Int32) (x2 : Int32) (M : ao_M) (ρ : ao_H), Iv W M0 ρ0 M ρ → okr W ρ0 r0 → ∀ z, fX12_restart n pc r0 x1 x2 M ρ = some z → Iv W M0 ρ0 z.1 z.2 := by
  intro n
  induction n with
  | zero => intros; exact absurd (by assumption) (by simp [fX12_restart.eq_1])
  | succ n ih =>
    intro pc r0 x1 x2 M ρ hI h_r0
    rw [fX12_restart.eq_2]
    repeat' (with_reducible (first | exact f_none | refine f_ite (fun hc => ?_) (fun hc => ?_) | refine f_letM (Iv_u (by assumption) ?_) (fun M' hM' => ?_) | refine f_letI (fun v => ?_) | refine f_cs (fun x => ?_) (fun E => ?_) | refine f_letM (Iv_cp (by assumption) ?_) (fun M' hM' => ?_) | refine f_letM (by assumption) (fun M' hM' => ?_) | refine ih _ _ _ _ _ _ (by assumption) ?_ | refine ih _ _ _ _ _ _ ?_ ?_ | refine f_bind (ih _ _ _ _ _ _ (by assumption) ?_) (fun y hy => ?_) | refine f_bind (hd_gX12_takeBackTo h00 (by assumption) ?_) (fun y hy => ?_) | refine f_bind (hd_gX12_free h00 (by assumption) ?_) (fun y hy => ?_) | refine f_bind (hd_gX12_level h00 (by assumption) ?_) (fun y hy => ?_)  | refine f_bindF (by assumption) ?_ (fun j hj => ?_) | refine f_bindZ (by assumption) (fun j hj hz => ?_) | refine f_some ?_ | assumption | exact okl (by assumption) | exact okw (by assumption) (by assumption) (by assumption) (by decide) | exact h00 | refine Iv_u (by assumption) ?_ | refine Iv_cp (by assumption) ?_ | refine Iv_r ?_ ?_ ?_ | refine Iv_new (by assumption) (by assumption) (by assumption) | refine Iv_th (by assumption) | refine Iv_u ?_ ?_ | refine Iv_cp ?_ ?_ | apply And.intro))
set_option maxRecDepth 100000 in
set_option maxHeartbeats 4000000 in
theorem hd_gX12_restart (h00 : okr W ρ0 0) {n : Nat} {r0 : Nat} {x1 : Int32} {x2 : Int32} {M : ao_M} {ρ : ao_H} (hI : Iv W M0 ρ0 M ρ) (h_r0 : okr W ρ0 r0) : ∀ z, gX12_restart n r0 x1 x2 M ρ = some z → Iv W M0 ρ0 z.1 z.2 := by
  unfold gX12_restart
  exact hd_fX12_restart h00 _ _ _ _ _ _ _ hI (by first | assumption | exact h00 | exact fun h => absurd h (by decide))
set_option maxRecDepth 100000 in
set_option maxHeartbeats 4000000 in
theorem hd_gX12_push (h00 : okr W ρ0 0) {r0 : Nat} {x1 : Int32} {x2 : Int32} {M : ao_M} {ρ : ao_H} (hI : Iv W M0 ρ0 M ρ) (h_r0 : okr W ρ0 r0) : ∀ z, gX12_push r0 x1 x2 M ρ = some z → Iv W M0 ρ0 z ρ := by
  unfold gX12_push
  repeat' (with_reducible (first | exact f_none | refine f_ite (fun hc => ?_) (fun hc => ?_) | refine f_letM (Iv_u (by assumption) ?_) (fun M' hM' => ?_) | refine f_letI (fun v => ?_) | refine f_cs (fun x => ?_) (fun E => ?_) | refine f_letM (Iv_cp (by assumption) ?_) (fun M' hM' => ?_) | refine f_letM (by assumption) (fun M' hM' => ?_)  | refine f_bindF (by assumption) ?_ (fun j hj => ?_) | refine f_bindZ (by assumption) (fun j hj hz => ?_) | refine f_some ?_ | assumption | exact okl (by assumption) | exact okw (by assumption) (by assumption) (by assumption) (by decide) | exact h00 | refine Iv_u (by assumption) ?_ | refine Iv_cp (by assumption) ?_ | refine Iv_r ?_ ?_ ?_ | refine Iv_new (by assumption) (by assumption) (by assumption) | refine Iv_th (by assumption) | refine Iv_u ?_ ?_ | refine Iv_cp ?_ ?_ | apply And.intro))
set_option maxRecDepth 100000 in
set_option maxHeartbeats 4000000 in
theorem hd_fX12_writtenLevel (h00 : okr W ρ0 0) : ∀ (n : Nat) (pc : Nat) (r0 : Nat) (x1 : Int32) (x2 : Int32) (x3 : Int32) (M : ao_M) (ρ : ao_H), Iv W M0 ρ0 M ρ → okr W ρ0 r0 → ∀ z, fX12_writtenLevel n pc r0 x1 x2 x3 M ρ = some z → Iv W M0 ρ0 z.2 ρ := by
  intro n
  induction n with
  | zero => intros; exact absurd (by assumption) (by simp [fX12_writtenLevel.eq_1])
  | succ n ih =>
    intro pc r0 x1 x2 x3 M ρ hI h_r0
    rw [fX12_writtenLevel.eq_2]
    repeat' (with_reducible (first | exact f_none | refine f_ite (fun hc => ?_) (fun hc => ?_) | refine f_letM (Iv_u (by assumption) ?_) (fun M' hM' => ?_) | refine f_letI (fun v => ?_) | refine f_cs (fun x => ?_) (fun E => ?_) | refine f_letM (Iv_cp (by assumption) ?_) (fun M' hM' => ?_) | refine f_letM (by assumption) (fun M' hM' => ?_) | refine ih _ _ _ _ _ _ _ (by assumption) ?_ | refine ih _ _ _ _ _ _ _ ?_ ?_ | refine f_bind (ih _ _ _ _ _ _ _ (by assumption) ?_) (fun y hy => ?_) | refine f_bind (hd_gX12_cell h00 (by assumption) ?_) (fun y hy => ?_)  | refine f_bindF (by assumption) ?_ (fun j hj => ?_) | refine f_bindZ (by assumption) (fun j hj hz => ?_) | refine f_some ?_ | assumption | exact okl (by assumption) | exact okw (by assumption) (by assumption) (by assumption) (by decide) | exact h00 | refine Iv_u (by assumption) ?_ | refine Iv_cp (by assumption) ?_ | refine Iv_r ?_ ?_ ?_ | refine Iv_new (by assumption) (by assumption) (by assumption) | refine Iv_th (by assumption) | refine Iv_u ?_ ?_ | refine Iv_cp ?_ ?_ | apply And.intro))
set_option maxRecDepth 100000 in
set_option maxHeartbeats 4000000 in
theorem hd_gX12_writtenLevel (h00 : okr W ρ0 0) {n : Nat} {r0 : Nat} {x1 : Int32} {x2 : Int32} {M : ao_M} {ρ : ao_H} (hI : Iv W M0 ρ0 M ρ) (h_r0 : okr W ρ0 r0) : ∀ z, gX12_writtenLevel n r0 x1 x2 M ρ = some z → Iv W M0 ρ0 z.2 ρ := by
  unfold gX12_writtenLevel
  exact hd_fX12_writtenLevel h00 _ _ _ _ _ _ _ _ hI (by first | assumption | exact h00 | exact fun h => absurd h (by decide))
set_option maxRecDepth 100000 in
set_option maxHeartbeats 4000000 in
theorem hd_fX12_isWrong (h00 : okr W ρ0 0) : ∀ (n : Nat) (pc : Nat) (r0 : Nat) (x1 : Int32) (x2 : Int32) (x3 : Int32) (x4 : Int32) (M : ao_M) (ρ : ao_H), Iv W M0 ρ0 M ρ → okr W ρ0 r0 → ∀ z, fX12_isWrong n pc r0 x1 x2 x3 x4 M ρ = some z → Iv W M0 ρ0 z.2 ρ := by
  intro n
  induction n with
  | zero => intros; exact absurd (by assumption) (by simp [fX12_isWrong.eq_1])
  | succ n ih =>
    intro pc r0 x1 x2 x3 x4 M ρ hI h_r0
    rw [fX12_isWrong.eq_2]
    repeat' (with_reducible (first | exact f_none | refine f_ite (fun hc => ?_) (fun hc => ?_) | refine f_letM (Iv_u (by assumption) ?_) (fun M' hM' => ?_) | refine f_letI (fun v => ?_) | refine f_cs (fun x => ?_) (fun E => ?_) | refine f_letM (Iv_cp (by assumption) ?_) (fun M' hM' => ?_) | refine f_letM (by assumption) (fun M' hM' => ?_) | refine ih _ _ _ _ _ _ _ _ (by assumption) ?_ | refine ih _ _ _ _ _ _ _ _ ?_ ?_ | refine f_bind (ih _ _ _ _ _ _ _ _ (by assumption) ?_) (fun y hy => ?_) | refine f_bind (hd_gX12_cell h00 (by assumption) ?_) (fun y hy => ?_)  | refine f_bindF (by assumption) ?_ (fun j hj => ?_) | refine f_bindZ (by assumption) (fun j hj hz => ?_) | refine f_some ?_ | assumption | exact okl (by assumption) | exact okw (by assumption) (by assumption) (by assumption) (by decide) | exact h00 | refine Iv_u (by assumption) ?_ | refine Iv_cp (by assumption) ?_ | refine Iv_r ?_ ?_ ?_ | refine Iv_new (by assumption) (by assumption) (by assumption) | refine Iv_th (by assumption) | refine Iv_u ?_ ?_ | refine Iv_cp ?_ ?_ | apply And.intro))
set_option maxRecDepth 100000 in
set_option maxHeartbeats 4000000 in
theorem hd_gX12_isWrong (h00 : okr W ρ0 0) {n : Nat} {r0 : Nat} {x1 : Int32} {x2 : Int32} {x3 : Int32} {M : ao_M} {ρ : ao_H} (hI : Iv W M0 ρ0 M ρ) (h_r0 : okr W ρ0 r0) : ∀ z, gX12_isWrong n r0 x1 x2 x3 M ρ = some z → Iv W M0 ρ0 z.2 ρ := by
  unfold gX12_isWrong
  exact hd_fX12_isWrong h00 _ _ _ _ _ _ _ _ _ hI (by first | assumption | exact h00 | exact fun h => absurd h (by decide))
set_option maxRecDepth 100000 in
set_option maxHeartbeats 4000000 in
theorem hd_fX12_wrongLevel (h00 : okr W ρ0 0) : ∀ (n : Nat) (pc : Nat) (r0 : Nat) (x1 : Int32) (x2 : Int32) (x3 : Int32) (M : ao_M) (ρ : ao_H), Iv W M0 ρ0 M ρ → okr W ρ0 r0 → ∀ z, fX12_wrongLevel n pc r0 x1 x2 x3 M ρ = some z → Iv W M0 ρ0 z.2 ρ := by
  intro n
  induction n with
  | zero => intros; exact absurd (by assumption) (by simp [fX12_wrongLevel.eq_1])
  | succ n ih =>
    intro pc r0 x1 x2 x3 M ρ hI h_r0
    rw [fX12_wrongLevel.eq_2]
    repeat' (with_reducible (first | exact f_none | refine f_ite (fun hc => ?_) (fun hc => ?_) | refine f_letM (Iv_u (by assumption) ?_) (fun M' hM' => ?_) | refine f_letI (fun v => ?_) | refine f_cs (fun x => ?_) (fun E => ?_) | refine f_letM (Iv_cp (by assumption) ?_) (fun M' hM' => ?_) | refine f_letM (by assumption) (fun M' hM' => ?_) | refine ih _ _ _ _ _ _ _ (by assumption) ?_ | refine ih _ _ _ _ _ _ _ ?_ ?_ | refine f_bind (ih _ _ _ _ _ _ _ (by assumption) ?_) (fun y hy => ?_) | refine f_bind (hd_gX12_isWrong h00 (by assumption) ?_) (fun y hy => ?_)  | refine f_bindF (by assumption) ?_ (fun j hj => ?_) | refine f_bindZ (by assumption) (fun j hj hz => ?_) | refine f_some ?_ | assumption | exact okl (by assumption) | exact okw (by assumption) (by assumption) (by assumption) (by decide) | exact h00 | refine Iv_u (by assumption) ?_ | refine Iv_cp (by assumption) ?_ | refine Iv_r ?_ ?_ ?_ | refine Iv_new (by assumption) (by assumption) (by assumption) | refine Iv_th (by assumption) | refine Iv_u ?_ ?_ | refine Iv_cp ?_ ?_ | apply And.intro))
set_option maxRecDepth 100000 in
set_option maxHeartbeats 4000000 in
theorem hd_gX12_wrongLevel (h00 : okr W ρ0 0) {n : Nat} {r0 : Nat} {x1 : Int32} {M : ao_M} {ρ : ao_H} (hI : Iv W M0 ρ0 M ρ) (h_r0 : okr W ρ0 r0) : ∀ z, gX12_wrongLevel n r0 x1 M ρ = some z → Iv W M0 ρ0 z.2 ρ := by
  unfold gX12_wrongLevel
  exact hd_fX12_wrongLevel h00 _ _ _ _ _ _ _ _ hI (by first | assumption | exact h00 | exact fun h => absurd h (by decide))
set_option maxRecDepth 100000 in
set_option maxHeartbeats 4000000 in
theorem hd_fX12_conflict (h00 : okr W ρ0 0) : ∀ (n : Nat) (pc : Nat) (r0 : Nat) (x1 : Int32) (x2 : Int32) (s0 : Int32) (s1 : Int32) (q2 : Nat) (M : ao_M) (ρ : ao_H), Iv W M0 ρ0 M ρ → okr W ρ0 r0 → okr W ρ0 q2 → ∀ z, fX12_conflict n pc r0 x1 x2 s0 s1 q2 M ρ = some z → Iv W M0 ρ0 z.1 z.2 := by
  intro n
  induction n with
  | zero => intros; exact absurd (by assumption) (by simp [fX12_conflict.eq_1])
  | succ n ih =>
    intro pc r0 x1 x2 s0 s1 q2 M ρ hI h_r0 h_q2
    rw [fX12_conflict.eq_2]
    repeat' (with_reducible (first | exact f_none | refine f_ite (fun hc => ?_) (fun hc => ?_) | refine f_letM (Iv_u (by assumption) ?_) (fun M' hM' => ?_) | refine f_letI (fun v => ?_) | refine f_cs (fun x => ?_) (fun E => ?_) | refine f_letM (Iv_cp (by assumption) ?_) (fun M' hM' => ?_) | refine f_letM (by assumption) (fun M' hM' => ?_) | refine ih _ _ _ _ _ _ _ _ _ (by assumption) ?_ ?_ | refine ih _ _ _ _ _ _ _ _ _ ?_ ?_ ?_ | refine f_bind (ih _ _ _ _ _ _ _ _ _ (by assumption) ?_ ?_) (fun y hy => ?_) | refine f_bind (hd_gX12_wrongLevel h00 (by assumption) ?_) (fun y hy => ?_) | refine f_bind (hd_gX12_restart h00 (by assumption) ?_) (fun y hy => ?_)  | refine f_bindF (by assumption) ?_ (fun j hj => ?_) | refine f_bindZ (by assumption) (fun j hj hz => ?_) | refine f_some ?_ | assumption | exact okl (by assumption) | exact okw (by assumption) (by assumption) (by assumption) (by decide) | exact h00 | refine Iv_u (by assumption) ?_ | refine Iv_cp (by assumption) ?_ | refine Iv_r ?_ ?_ ?_ | refine Iv_new (by assumption) (by assumption) (by assumption) | refine Iv_th (by assumption) | refine Iv_u ?_ ?_ | refine Iv_cp ?_ ?_ | apply And.intro))
set_option maxRecDepth 100000 in
set_option maxHeartbeats 4000000 in
theorem hd_gX12_conflict (h00 : okr W ρ0 0) {n : Nat} {r0 : Nat} {x1 : Int32} {M : ao_M} {ρ : ao_H} (hI : Iv W M0 ρ0 M ρ) (h_r0 : okr W ρ0 r0) : ∀ z, gX12_conflict n r0 x1 M ρ = some z → Iv W M0 ρ0 z.1 z.2 := by
  unfold gX12_conflict
  exact hd_fX12_conflict h00 _ _ _ _ _ _ _ _ _ _ hI (by first | assumption | exact h00 | exact fun h => absurd h (by decide)) (by first | assumption | exact h00 | exact fun h => absurd h (by decide))
set_option maxRecDepth 100000 in
set_option maxHeartbeats 4000000 in
theorem hd_fX12_goesOn (h00 : okr W ρ0 0) : ∀ (n : Nat) (pc : Nat) (r0 : Nat) (x1 : Int32) (M : ao_M) (ρ : ao_H), Iv W M0 ρ0 M ρ → okr W ρ0 r0 → ∀ z, fX12_goesOn n pc r0 x1 M ρ = some z → Iv W M0 ρ0 z.2.1 z.2.2 := by
  intro n
  induction n with
  | zero => intros; exact absurd (by assumption) (by simp [fX12_goesOn.eq_1])
  | succ n ih =>
    intro pc r0 x1 M ρ hI h_r0
    rw [fX12_goesOn.eq_2]
    repeat' (with_reducible (first | exact f_none | refine f_ite (fun hc => ?_) (fun hc => ?_) | refine f_letM (Iv_u (by assumption) ?_) (fun M' hM' => ?_) | refine f_letI (fun v => ?_) | refine f_cs (fun x => ?_) (fun E => ?_) | refine f_letM (Iv_cp (by assumption) ?_) (fun M' hM' => ?_) | refine f_letM (by assumption) (fun M' hM' => ?_) | refine ih _ _ _ _ _ (by assumption) ?_ | refine ih _ _ _ _ _ ?_ ?_ | refine f_bind (ih _ _ _ _ _ (by assumption) ?_) (fun y hy => ?_) | refine f_bind (hd_gX12_wrongLevel h00 (by assumption) ?_) (fun y hy => ?_) | refine f_bind (hd_gX12_conflict h00 (by assumption) ?_) (fun y hy => ?_)  | refine f_bindF (by assumption) ?_ (fun j hj => ?_) | refine f_bindZ (by assumption) (fun j hj hz => ?_) | refine f_some ?_ | assumption | exact okl (by assumption) | exact okw (by assumption) (by assumption) (by assumption) (by decide) | exact h00 | refine Iv_u (by assumption) ?_ | refine Iv_cp (by assumption) ?_ | refine Iv_r ?_ ?_ ?_ | refine Iv_new (by assumption) (by assumption) (by assumption) | refine Iv_th (by assumption) | refine Iv_u ?_ ?_ | refine Iv_cp ?_ ?_ | apply And.intro))
set_option maxRecDepth 100000 in
set_option maxHeartbeats 4000000 in
theorem hd_gX12_goesOn (h00 : okr W ρ0 0) {n : Nat} {r0 : Nat} {x1 : Int32} {M : ao_M} {ρ : ao_H} (hI : Iv W M0 ρ0 M ρ) (h_r0 : okr W ρ0 r0) : ∀ z, gX12_goesOn n r0 x1 M ρ = some z → Iv W M0 ρ0 z.2.1 z.2.2 := by
  unfold gX12_goesOn
  exact hd_fX12_goesOn h00 _ _ _ _ _ _ hI (by first | assumption | exact h00 | exact fun h => absurd h (by decide))
set_option maxRecDepth 100000 in
set_option maxHeartbeats 4000000 in
theorem hd_fX12_wins (h00 : okr W ρ0 0) : ∀ (n : Nat) (pc : Nat) (r0 : Nat) (x1 : Int32) (x2 : Int32) (x3 : Int32) (M : ao_M) (ρ : ao_H), Iv W M0 ρ0 M ρ → okr W ρ0 r0 → ∀ z, fX12_wins n pc r0 x1 x2 x3 M ρ = some z → Iv W M0 ρ0 z.2.1 z.2.2 := by
  intro n
  induction n with
  | zero => intros; exact absurd (by assumption) (by simp [fX12_wins.eq_1])
  | succ n ih =>
    intro pc r0 x1 x2 x3 M ρ hI h_r0
    rw [fX12_wins.eq_2]
    repeat' (with_reducible (first | exact f_none | refine f_ite (fun hc => ?_) (fun hc => ?_) | refine f_letM (Iv_u (by assumption) ?_) (fun M' hM' => ?_) | refine f_letI (fun v => ?_) | refine f_cs (fun x => ?_) (fun E => ?_) | refine f_letM (Iv_cp (by assumption) ?_) (fun M' hM' => ?_) | refine f_letM (by assumption) (fun M' hM' => ?_) | refine ih _ _ _ _ _ _ _ (by assumption) ?_ | refine ih _ _ _ _ _ _ _ ?_ ?_ | refine f_bind (ih _ _ _ _ _ _ _ (by assumption) ?_) (fun y hy => ?_) | refine f_bind (hd_gX12_restart h00 (by assumption) ?_) (fun y hy => ?_)  | refine f_bindF (by assumption) ?_ (fun j hj => ?_) | refine f_bindZ (by assumption) (fun j hj hz => ?_) | refine f_some ?_ | assumption | exact okl (by assumption) | exact okw (by assumption) (by assumption) (by assumption) (by decide) | exact h00 | refine Iv_u (by assumption) ?_ | refine Iv_cp (by assumption) ?_ | refine Iv_r ?_ ?_ ?_ | refine Iv_new (by assumption) (by assumption) (by assumption) | refine Iv_th (by assumption) | refine Iv_u ?_ ?_ | refine Iv_cp ?_ ?_ | apply And.intro))
set_option maxRecDepth 100000 in
set_option maxHeartbeats 4000000 in
theorem hd_gX12_wins (h00 : okr W ρ0 0) {n : Nat} {r0 : Nat} {x1 : Int32} {x2 : Int32} {M : ao_M} {ρ : ao_H} (hI : Iv W M0 ρ0 M ρ) (h_r0 : okr W ρ0 r0) : ∀ z, gX12_wins n r0 x1 x2 M ρ = some z → Iv W M0 ρ0 z.2.1 z.2.2 := by
  unfold gX12_wins
  exact hd_fX12_wins h00 _ _ _ _ _ _ _ _ hI (by first | assumption | exact h00 | exact fun h => absurd h (by decide))
set_option maxRecDepth 100000 in
set_option maxHeartbeats 4000000 in
theorem hd_fX12_past (h00 : okr W ρ0 0) : ∀ (n : Nat) (pc : Nat) (r0 : Nat) (x1 : Int32) (x2 : Int32) (x3 : Int32) (M : ao_M) (ρ : ao_H), Iv W M0 ρ0 M ρ → okr W ρ0 r0 → ∀ z, fX12_past n pc r0 x1 x2 x3 M ρ = some z → Iv W M0 ρ0 z.2 ρ := by
  intro n
  induction n with
  | zero => intros; exact absurd (by assumption) (by simp [fX12_past.eq_1])
  | succ n ih =>
    intro pc r0 x1 x2 x3 M ρ hI h_r0
    rw [fX12_past.eq_2]
    repeat' (with_reducible (first | exact f_none | refine f_ite (fun hc => ?_) (fun hc => ?_) | refine f_letM (Iv_u (by assumption) ?_) (fun M' hM' => ?_) | refine f_letI (fun v => ?_) | refine f_cs (fun x => ?_) (fun E => ?_) | refine f_letM (Iv_cp (by assumption) ?_) (fun M' hM' => ?_) | refine f_letM (by assumption) (fun M' hM' => ?_) | refine ih _ _ _ _ _ _ _ (by assumption) ?_ | refine ih _ _ _ _ _ _ _ ?_ ?_ | refine f_bind (ih _ _ _ _ _ _ _ (by assumption) ?_) (fun y hy => ?_)  | refine f_bindF (by assumption) ?_ (fun j hj => ?_) | refine f_bindZ (by assumption) (fun j hj hz => ?_) | refine f_some ?_ | assumption | exact okl (by assumption) | exact okw (by assumption) (by assumption) (by assumption) (by decide) | exact h00 | refine Iv_u (by assumption) ?_ | refine Iv_cp (by assumption) ?_ | refine Iv_r ?_ ?_ ?_ | refine Iv_new (by assumption) (by assumption) (by assumption) | refine Iv_th (by assumption) | refine Iv_u ?_ ?_ | refine Iv_cp ?_ ?_ | apply And.intro))
set_option maxRecDepth 100000 in
set_option maxHeartbeats 4000000 in
theorem hd_gX12_past (h00 : okr W ρ0 0) {n : Nat} {r0 : Nat} {x1 : Int32} {x2 : Int32} {M : ao_M} {ρ : ao_H} (hI : Iv W M0 ρ0 M ρ) (h_r0 : okr W ρ0 r0) : ∀ z, gX12_past n r0 x1 x2 M ρ = some z → Iv W M0 ρ0 z.2 ρ := by
  unfold gX12_past
  exact hd_fX12_past h00 _ _ _ _ _ _ _ _ hI (by first | assumption | exact h00 | exact fun h => absurd h (by decide))
set_option maxRecDepth 100000 in
set_option maxHeartbeats 4000000 in
theorem hd_gX12_addRead (h00 : okr W ρ0 0) {r0 : Nat} {x1 : Int32} {x2 : Int32} {x3 : Int32} {M : ao_M} {ρ : ao_H} (hI : Iv W M0 ρ0 M ρ) (h_r0 : okr W ρ0 r0) : ∀ z, gX12_addRead r0 x1 x2 x3 M ρ = some z → Iv W M0 ρ0 z ρ := by
  unfold gX12_addRead
  repeat' (with_reducible (first | exact f_none | refine f_ite (fun hc => ?_) (fun hc => ?_) | refine f_letM (Iv_u (by assumption) ?_) (fun M' hM' => ?_) | refine f_letI (fun v => ?_) | refine f_cs (fun x => ?_) (fun E => ?_) | refine f_letM (Iv_cp (by assumption) ?_) (fun M' hM' => ?_) | refine f_letM (by assumption) (fun M' hM' => ?_) | refine f_bind (hd_gX12_cell h00 (by assumption) ?_) (fun y hy => ?_)  | refine f_bindF (by assumption) ?_ (fun j hj => ?_) | refine f_bindZ (by assumption) (fun j hj hz => ?_) | refine f_some ?_ | assumption | exact okl (by assumption) | exact okw (by assumption) (by assumption) (by assumption) (by decide) | exact h00 | refine Iv_u (by assumption) ?_ | refine Iv_cp (by assumption) ?_ | refine Iv_r ?_ ?_ ?_ | refine Iv_new (by assumption) (by assumption) (by assumption) | refine Iv_th (by assumption) | refine Iv_u ?_ ?_ | refine Iv_cp ?_ ?_ | apply And.intro))
set_option maxRecDepth 100000 in
set_option maxHeartbeats 4000000 in
theorem hd_fX12_looks (h00 : okr W ρ0 0) : ∀ (n : Nat) (pc : Nat) (r0 : Nat) (x1 : Int32) (x2 : Int32) (x3 : Int32) (s0 : Int32) (q1 : Nat) (M : ao_M) (ρ : ao_H), Iv W M0 ρ0 M ρ → okr W ρ0 r0 → okr W ρ0 q1 → ∀ z, fX12_looks n pc r0 x1 x2 x3 s0 q1 M ρ = some z → Iv W M0 ρ0 z.2.1 z.2.2 := by
  intro n
  induction n with
  | zero => intros; exact absurd (by assumption) (by simp [fX12_looks.eq_1])
  | succ n ih =>
    intro pc r0 x1 x2 x3 s0 q1 M ρ hI h_r0 h_q1
    rw [fX12_looks.eq_2]
    repeat' (with_reducible (first | exact f_none | refine f_ite (fun hc => ?_) (fun hc => ?_) | refine f_letM (Iv_u (by assumption) ?_) (fun M' hM' => ?_) | refine f_letI (fun v => ?_) | refine f_cs (fun x => ?_) (fun E => ?_) | refine f_letM (Iv_cp (by assumption) ?_) (fun M' hM' => ?_) | refine f_letM (by assumption) (fun M' hM' => ?_) | refine ih _ _ _ _ _ _ _ _ _ (by assumption) ?_ ?_ | refine ih _ _ _ _ _ _ _ _ _ ?_ ?_ ?_ | refine f_bind (ih _ _ _ _ _ _ _ _ _ (by assumption) ?_ ?_) (fun y hy => ?_) | refine f_bind (hd_gX12_writtenLevel h00 (by assumption) ?_) (fun y hy => ?_) | refine f_bind (hd_gX12_isEager h00 (by assumption) ?_) (fun y hy => ?_) | refine f_bind (hd_gX12_cell h00 (by assumption) ?_) (fun y hy => ?_) | refine f_bind (hd_gX12_conflict h00 (by assumption) ?_) (fun y hy => ?_) | refine f_bind (hd_gX12_goesOn h00 (by assumption) ?_) (fun y hy => ?_) | refine f_bind (hd_gX12_wins h00 (by assumption) ?_) (fun y hy => ?_) | refine f_bind (hd_gX12_past h00 (by assumption) ?_) (fun y hy => ?_) | refine f_bind (hd_gX12_addRead h00 (by assumption) ?_) (fun y hy => ?_)  | refine f_bindF (by assumption) ?_ (fun j hj => ?_) | refine f_bindZ (by assumption) (fun j hj hz => ?_) | refine f_some ?_ | assumption | exact okl (by assumption) | exact okw (by assumption) (by assumption) (by assumption) (by decide) | exact h00 | refine Iv_u (by assumption) ?_ | refine Iv_cp (by assumption) ?_ | refine Iv_r ?_ ?_ ?_ | refine Iv_new (by assumption) (by assumption) (by assumption) | refine Iv_th (by assumption) | refine Iv_u ?_ ?_ | refine Iv_cp ?_ ?_ | apply And.intro))
set_option maxRecDepth 100000 in
set_option maxHeartbeats 4000000 in
theorem hd_gX12_looks (h00 : okr W ρ0 0) {n : Nat} {r0 : Nat} {x1 : Int32} {x2 : Int32} {M : ao_M} {ρ : ao_H} (hI : Iv W M0 ρ0 M ρ) (h_r0 : okr W ρ0 r0) : ∀ z, gX12_looks n r0 x1 x2 M ρ = some z → Iv W M0 ρ0 z.2.1 z.2.2 := by
  unfold gX12_looks
  exact hd_fX12_looks h00 _ _ _ _ _ _ _ _ _ _ hI (by first | assumption | exact h00 | exact fun h => absurd h (by decide)) (by first | assumption | exact h00 | exact fun h => absurd h (by decide))
set_option maxRecDepth 100000 in
set_option maxHeartbeats 4000000 in
theorem hd_fX12_newRecord (h00 : okr W ρ0 0) : ∀ (n : Nat) (pc : Nat) (r0 : Nat) (x1 : Int32) (x2 : Int32) (x3 : Int32) (M : ao_M) (ρ : ao_H), Iv W M0 ρ0 M ρ → okr W ρ0 r0 → ∀ z, fX12_newRecord n pc r0 x1 x2 x3 M ρ = some z → Iv W M0 ρ0 z.2 ρ := by
  intro n
  induction n with
  | zero => intros; exact absurd (by assumption) (by simp [fX12_newRecord.eq_1])
  | succ n ih =>
    intro pc r0 x1 x2 x3 M ρ hI h_r0
    rw [fX12_newRecord.eq_2]
    repeat' (with_reducible (first | exact f_none | refine f_ite (fun hc => ?_) (fun hc => ?_) | refine f_letM (Iv_u (by assumption) ?_) (fun M' hM' => ?_) | refine f_letI (fun v => ?_) | refine f_cs (fun x => ?_) (fun E => ?_) | refine f_letM (Iv_cp (by assumption) ?_) (fun M' hM' => ?_) | refine f_letM (by assumption) (fun M' hM' => ?_) | refine ih _ _ _ _ _ _ _ (by assumption) ?_ | refine ih _ _ _ _ _ _ _ ?_ ?_ | refine f_bind (ih _ _ _ _ _ _ _ (by assumption) ?_) (fun y hy => ?_)  | refine f_bindF (by assumption) ?_ (fun j hj => ?_) | refine f_bindZ (by assumption) (fun j hj hz => ?_) | refine f_some ?_ | assumption | exact okl (by assumption) | exact okw (by assumption) (by assumption) (by assumption) (by decide) | exact h00 | refine Iv_u (by assumption) ?_ | refine Iv_cp (by assumption) ?_ | refine Iv_r ?_ ?_ ?_ | refine Iv_new (by assumption) (by assumption) (by assumption) | refine Iv_th (by assumption) | refine Iv_u ?_ ?_ | refine Iv_cp ?_ ?_ | apply And.intro))
set_option maxRecDepth 100000 in
set_option maxHeartbeats 4000000 in
theorem hd_gX12_newRecord (h00 : okr W ρ0 0) {n : Nat} {r0 : Nat} {x1 : Int32} {x2 : Int32} {M : ao_M} {ρ : ao_H} (hI : Iv W M0 ρ0 M ρ) (h_r0 : okr W ρ0 r0) : ∀ z, gX12_newRecord n r0 x1 x2 M ρ = some z → Iv W M0 ρ0 z.2 ρ := by
  unfold gX12_newRecord
  exact hd_fX12_newRecord h00 _ _ _ _ _ _ _ _ hI (by first | assumption | exact h00 | exact fun h => absurd h (by decide))
set_option maxRecDepth 100000 in
set_option maxHeartbeats 4000000 in
theorem hd_fX12_doLook (h00 : okr W ρ0 0) : ∀ (n : Nat) (pc : Nat) (r0 : Nat) (x1 : Int32) (x2 : Int32) (s0 : Int32) (M : ao_M) (ρ : ao_H), Iv W M0 ρ0 M ρ → okr W ρ0 r0 → ∀ z, fX12_doLook n pc r0 x1 x2 s0 M ρ = some z → Iv W M0 ρ0 z.2.1 z.2.2 := by
  intro n
  induction n with
  | zero => intros; exact absurd (by assumption) (by simp [fX12_doLook.eq_1])
  | succ n ih =>
    intro pc r0 x1 x2 s0 M ρ hI h_r0
    rw [fX12_doLook.eq_2]
    repeat' (with_reducible (first | exact f_none | refine f_ite (fun hc => ?_) (fun hc => ?_) | refine f_letM (Iv_u (by assumption) ?_) (fun M' hM' => ?_) | refine f_letI (fun v => ?_) | refine f_cs (fun x => ?_) (fun E => ?_) | refine f_letM (Iv_cp (by assumption) ?_) (fun M' hM' => ?_) | refine f_letM (by assumption) (fun M' hM' => ?_) | refine ih _ _ _ _ _ _ _ (by assumption) ?_ | refine ih _ _ _ _ _ _ _ ?_ ?_ | refine f_bind (ih _ _ _ _ _ _ _ (by assumption) ?_) (fun y hy => ?_) | refine f_bind (hd_gX12_looks h00 (by assumption) ?_) (fun y hy => ?_) | refine f_bind (hd_gX12_newRecord h00 (by assumption) ?_) (fun y hy => ?_) | refine f_bind (hd_gX12_push h00 (by assumption) ?_) (fun y hy => ?_)  | refine f_bindF (by assumption) ?_ (fun j hj => ?_) | refine f_bindZ (by assumption) (fun j hj hz => ?_) | refine f_some ?_ | assumption | exact okl (by assumption) | exact okw (by assumption) (by assumption) (by assumption) (by decide) | exact h00 | refine Iv_u (by assumption) ?_ | refine Iv_cp (by assumption) ?_ | refine Iv_r ?_ ?_ ?_ | refine Iv_new (by assumption) (by assumption) (by assumption) | refine Iv_th (by assumption) | refine Iv_u ?_ ?_ | refine Iv_cp ?_ ?_ | apply And.intro))
set_option maxRecDepth 100000 in
set_option maxHeartbeats 4000000 in
theorem hd_gX12_doLook (h00 : okr W ρ0 0) {n : Nat} {r0 : Nat} {x1 : Int32} {x2 : Int32} {M : ao_M} {ρ : ao_H} (hI : Iv W M0 ρ0 M ρ) (h_r0 : okr W ρ0 r0) : ∀ z, gX12_doLook n r0 x1 x2 M ρ = some z → Iv W M0 ρ0 z.2.1 z.2.2 := by
  unfold gX12_doLook
  exact hd_fX12_doLook h00 _ _ _ _ _ _ _ _ hI (by first | assumption | exact h00 | exact fun h => absurd h (by decide))
set_option maxRecDepth 100000 in
set_option maxHeartbeats 4000000 in
theorem hd_gX12_pop (h00 : okr W ρ0 0) {r0 : Nat} {x1 : Int32} {M : ao_M} {ρ : ao_H} (hI : Iv W M0 ρ0 M ρ) (h_r0 : okr W ρ0 r0) : ∀ z, gX12_pop r0 x1 M ρ = some z → Iv W M0 ρ0 z.2 ρ := by
  unfold gX12_pop
  repeat' (with_reducible (first | exact f_none | refine f_ite (fun hc => ?_) (fun hc => ?_) | refine f_letM (Iv_u (by assumption) ?_) (fun M' hM' => ?_) | refine f_letI (fun v => ?_) | refine f_cs (fun x => ?_) (fun E => ?_) | refine f_letM (Iv_cp (by assumption) ?_) (fun M' hM' => ?_) | refine f_letM (by assumption) (fun M' hM' => ?_)  | refine f_bindF (by assumption) ?_ (fun j hj => ?_) | refine f_bindZ (by assumption) (fun j hj hz => ?_) | refine f_some ?_ | assumption | exact okl (by assumption) | exact okw (by assumption) (by assumption) (by assumption) (by decide) | exact h00 | refine Iv_u (by assumption) ?_ | refine Iv_cp (by assumption) ?_ | refine Iv_r ?_ ?_ ?_ | refine Iv_new (by assumption) (by assumption) (by assumption) | refine Iv_th (by assumption) | refine Iv_u ?_ ?_ | refine Iv_cp ?_ ?_ | apply And.intro))
set_option maxRecDepth 100000 in
set_option maxHeartbeats 4000000 in
theorem hd_fX12_write (h00 : okr W ρ0 0) : ∀ (n : Nat) (pc : Nat) (r0 : Nat) (x1 : Int32) (x2 : Int32) (x3 : Int32) (x4 : Int32) (s0 : Int32) (M : ao_M) (ρ : ao_H), Iv W M0 ρ0 M ρ → okr W ρ0 r0 → ∀ z, fX12_write n pc r0 x1 x2 x3 x4 s0 M ρ = some z → Iv W M0 ρ0 z.2.1 z.2.2 := by
  intro n
  induction n with
  | zero => intros; exact absurd (by assumption) (by simp [fX12_write.eq_1])
  | succ n ih =>
    intro pc r0 x1 x2 x3 x4 s0 M ρ hI h_r0
    rw [fX12_write.eq_2]
    repeat' (with_reducible (first | exact f_none | refine f_ite (fun hc => ?_) (fun hc => ?_) | refine f_letM (Iv_u (by assumption) ?_) (fun M' hM' => ?_) | refine f_letI (fun v => ?_) | refine f_cs (fun x => ?_) (fun E => ?_) | refine f_letM (Iv_cp (by assumption) ?_) (fun M' hM' => ?_) | refine f_letM (by assumption) (fun M' hM' => ?_) | refine ih _ _ _ _ _ _ _ _ _ (by assumption) ?_ | refine ih _ _ _ _ _ _ _ _ _ ?_ ?_ | refine f_bind (ih _ _ _ _ _ _ _ _ _ (by assumption) ?_) (fun y hy => ?_) | refine f_bind (hd_gX12_wins h00 (by assumption) ?_) (fun y hy => ?_) | refine f_bind (hd_gX12_goesOn h00 (by assumption) ?_) (fun y hy => ?_) | refine f_bind (hd_gX12_cell h00 (by assumption) ?_) (fun y hy => ?_) | refine f_bind (hd_gX12_isEager h00 (by assumption) ?_) (fun y hy => ?_)  | refine f_bindF (by assumption) ?_ (fun j hj => ?_) | refine f_bindZ (by assumption) (fun j hj hz => ?_) | refine f_some ?_ | assumption | exact okl (by assumption) | exact okw (by assumption) (by assumption) (by assumption) (by decide) | exact h00 | refine Iv_u (by assumption) ?_ | refine Iv_cp (by assumption) ?_ | refine Iv_r ?_ ?_ ?_ | refine Iv_new (by assumption) (by assumption) (by assumption) | refine Iv_th (by assumption) | refine Iv_u ?_ ?_ | refine Iv_cp ?_ ?_ | apply And.intro))
set_option maxRecDepth 100000 in
set_option maxHeartbeats 4000000 in
theorem hd_gX12_write (h00 : okr W ρ0 0) {n : Nat} {r0 : Nat} {x1 : Int32} {x2 : Int32} {x3 : Int32} {M : ao_M} {ρ : ao_H} (hI : Iv W M0 ρ0 M ρ) (h_r0 : okr W ρ0 r0) : ∀ z, gX12_write n r0 x1 x2 x3 M ρ = some z → Iv W M0 ρ0 z.2.1 z.2.2 := by
  unfold gX12_write
  exact hd_fX12_write h00 _ _ _ _ _ _ _ _ _ _ hI (by first | assumption | exact h00 | exact fun h => absurd h (by decide))
set_option maxRecDepth 100000 in
set_option maxHeartbeats 4000000 in
theorem hd_fX12_doWrite (h00 : okr W ρ0 0) : ∀ (n : Nat) (pc : Nat) (r0 : Nat) (x1 : Int32) (x2 : Int32) (x3 : Int32) (s0 : Int32) (M : ao_M) (ρ : ao_H), Iv W M0 ρ0 M ρ → okr W ρ0 r0 → ∀ z, fX12_doWrite n pc r0 x1 x2 x3 s0 M ρ = some z → Iv W M0 ρ0 z.2.1 z.2.2 := by
  intro n
  induction n with
  | zero => intros; exact absurd (by assumption) (by simp [fX12_doWrite.eq_1])
  | succ n ih =>
    intro pc r0 x1 x2 x3 s0 M ρ hI h_r0
    rw [fX12_doWrite.eq_2]
    repeat' (with_reducible (first | exact f_none | refine f_ite (fun hc => ?_) (fun hc => ?_) | refine f_letM (Iv_u (by assumption) ?_) (fun M' hM' => ?_) | refine f_letI (fun v => ?_) | refine f_cs (fun x => ?_) (fun E => ?_) | refine f_letM (Iv_cp (by assumption) ?_) (fun M' hM' => ?_) | refine f_letM (by assumption) (fun M' hM' => ?_) | refine ih _ _ _ _ _ _ _ _ (by assumption) ?_ | refine ih _ _ _ _ _ _ _ _ ?_ ?_ | refine f_bind (ih _ _ _ _ _ _ _ _ (by assumption) ?_) (fun y hy => ?_) | refine f_bind (hd_gX12_pop h00 (by assumption) ?_) (fun y hy => ?_) | refine f_bind (hd_gX12_write h00 (by assumption) ?_) (fun y hy => ?_) | refine f_bind (hd_gX12_change h00 (by assumption) ?_) (fun y hy => ?_) | refine f_bind (hd_gX12_newRecord h00 (by assumption) ?_) (fun y hy => ?_)  | refine f_bindF (by assumption) ?_ (fun j hj => ?_) | refine f_bindZ (by assumption) (fun j hj hz => ?_) | refine f_some ?_ | assumption | exact okl (by assumption) | exact okw (by assumption) (by assumption) (by assumption) (by decide) | exact h00 | refine Iv_u (by assumption) ?_ | refine Iv_cp (by assumption) ?_ | refine Iv_r ?_ ?_ ?_ | refine Iv_new (by assumption) (by assumption) (by assumption) | refine Iv_th (by assumption) | refine Iv_u ?_ ?_ | refine Iv_cp ?_ ?_ | apply And.intro))
set_option maxRecDepth 100000 in
set_option maxHeartbeats 4000000 in
theorem hd_gX12_doWrite (h00 : okr W ρ0 0) {n : Nat} {r0 : Nat} {x1 : Int32} {x2 : Int32} {M : ao_M} {ρ : ao_H} (hI : Iv W M0 ρ0 M ρ) (h_r0 : okr W ρ0 r0) : ∀ z, gX12_doWrite n r0 x1 x2 M ρ = some z → Iv W M0 ρ0 z.2.1 z.2.2 := by
  unfold gX12_doWrite
  exact hd_fX12_doWrite h00 _ _ _ _ _ _ _ _ _ hI (by first | assumption | exact h00 | exact fun h => absurd h (by decide))
set_option maxRecDepth 100000 in
set_option maxHeartbeats 4000000 in
theorem hd_gX12_hold (h00 : okr W ρ0 0) {r0 : Nat} {x1 : Int32} {x2 : Int32} {M : ao_M} {ρ : ao_H} (hI : Iv W M0 ρ0 M ρ) (h_r0 : okr W ρ0 r0) : ∀ z, gX12_hold r0 x1 x2 M ρ = some z → Iv W M0 ρ0 z ρ := by
  unfold gX12_hold
  repeat' (with_reducible (first | exact f_none | refine f_ite (fun hc => ?_) (fun hc => ?_) | refine f_letM (Iv_u (by assumption) ?_) (fun M' hM' => ?_) | refine f_letI (fun v => ?_) | refine f_cs (fun x => ?_) (fun E => ?_) | refine f_letM (Iv_cp (by assumption) ?_) (fun M' hM' => ?_) | refine f_letM (by assumption) (fun M' hM' => ?_)  | refine f_bindF (by assumption) ?_ (fun j hj => ?_) | refine f_bindZ (by assumption) (fun j hj hz => ?_) | refine f_some ?_ | assumption | exact okl (by assumption) | exact okw (by assumption) (by assumption) (by assumption) (by decide) | exact h00 | refine Iv_u (by assumption) ?_ | refine Iv_cp (by assumption) ?_ | refine Iv_r ?_ ?_ ?_ | refine Iv_new (by assumption) (by assumption) (by assumption) | refine Iv_th (by assumption) | refine Iv_u ?_ ?_ | refine Iv_cp ?_ ?_ | apply And.intro))
set_option maxRecDepth 100000 in
set_option maxHeartbeats 4000000 in
theorem hd_gX12_say (h00 : okr W ρ0 0) {r0 : Nat} {x1 : Int32} {x2 : Int32} {M : ao_M} {ρ : ao_H} (hI : Iv W M0 ρ0 M ρ) (h_r0 : okr W ρ0 r0) : ∀ z, gX12_say r0 x1 x2 M ρ = some z → Iv W M0 ρ0 z ρ := by
  unfold gX12_say
  repeat' (with_reducible (first | exact f_none | refine f_ite (fun hc => ?_) (fun hc => ?_) | refine f_letM (Iv_u (by assumption) ?_) (fun M' hM' => ?_) | refine f_letI (fun v => ?_) | refine f_cs (fun x => ?_) (fun E => ?_) | refine f_letM (Iv_cp (by assumption) ?_) (fun M' hM' => ?_) | refine f_letM (by assumption) (fun M' hM' => ?_)  | refine f_bindF (by assumption) ?_ (fun j hj => ?_) | refine f_bindZ (by assumption) (fun j hj hz => ?_) | refine f_some ?_ | assumption | exact okl (by assumption) | exact okw (by assumption) (by assumption) (by assumption) (by decide) | exact h00 | refine Iv_u (by assumption) ?_ | refine Iv_cp (by assumption) ?_ | refine Iv_r ?_ ?_ ?_ | refine Iv_new (by assumption) (by assumption) (by assumption) | refine Iv_th (by assumption) | refine Iv_u ?_ ?_ | refine Iv_cp ?_ ?_ | apply And.intro))
set_option maxRecDepth 100000 in
set_option maxHeartbeats 4000000 in
theorem hd_fX12_keepRegisters (h00 : okr W ρ0 0) : ∀ (n : Nat) (pc : Nat) (r0 : Nat) (x1 : Int32) (x2 : Int32) (x3 : Int32) (M : ao_M) (ρ : ao_H), Iv W M0 ρ0 M ρ → okr W ρ0 r0 → ∀ z, fX12_keepRegisters n pc r0 x1 x2 x3 M ρ = some z → Iv W M0 ρ0 z ρ := by
  intro n
  induction n with
  | zero => intros; exact absurd (by assumption) (by simp [fX12_keepRegisters.eq_1])
  | succ n ih =>
    intro pc r0 x1 x2 x3 M ρ hI h_r0
    rw [fX12_keepRegisters.eq_2]
    repeat' (with_reducible (first | exact f_none | refine f_ite (fun hc => ?_) (fun hc => ?_) | refine f_letM (Iv_u (by assumption) ?_) (fun M' hM' => ?_) | refine f_letI (fun v => ?_) | refine f_cs (fun x => ?_) (fun E => ?_) | refine f_letM (Iv_cp (by assumption) ?_) (fun M' hM' => ?_) | refine f_letM (by assumption) (fun M' hM' => ?_) | refine ih _ _ _ _ _ _ _ (by assumption) ?_ | refine ih _ _ _ _ _ _ _ ?_ ?_ | refine f_bind (ih _ _ _ _ _ _ _ (by assumption) ?_) (fun y hy => ?_) | refine f_bind (hd_gX12_cell h00 (by assumption) ?_) (fun y hy => ?_)  | refine f_bindF (by assumption) ?_ (fun j hj => ?_) | refine f_bindZ (by assumption) (fun j hj hz => ?_) | refine f_some ?_ | assumption | exact okl (by assumption) | exact okw (by assumption) (by assumption) (by assumption) (by decide) | exact h00 | refine Iv_u (by assumption) ?_ | refine Iv_cp (by assumption) ?_ | refine Iv_r ?_ ?_ ?_ | refine Iv_new (by assumption) (by assumption) (by assumption) | refine Iv_th (by assumption) | refine Iv_u ?_ ?_ | refine Iv_cp ?_ ?_ | apply And.intro))
set_option maxRecDepth 100000 in
set_option maxHeartbeats 4000000 in
theorem hd_gX12_keepRegisters (h00 : okr W ρ0 0) {n : Nat} {r0 : Nat} {x1 : Int32} {x2 : Int32} {M : ao_M} {ρ : ao_H} (hI : Iv W M0 ρ0 M ρ) (h_r0 : okr W ρ0 r0) : ∀ z, gX12_keepRegisters n r0 x1 x2 M ρ = some z → Iv W M0 ρ0 z ρ := by
  unfold gX12_keepRegisters
  exact hd_fX12_keepRegisters h00 _ _ _ _ _ _ _ _ hI (by first | assumption | exact h00 | exact fun h => absurd h (by decide))
set_option maxRecDepth 100000 in
set_option maxHeartbeats 4000000 in
theorem hd_gX12_openLevel (h00 : okr W ρ0 0) {n : Nat} {r0 : Nat} {x1 : Int32} {x2 : Int32} {x3 : Int32} {M : ao_M} {ρ : ao_H} (hI : Iv W M0 ρ0 M ρ) (h_r0 : okr W ρ0 r0) : ∀ z, gX12_openLevel n r0 x1 x2 x3 M ρ = some z → Iv W M0 ρ0 z ρ := by
  unfold gX12_openLevel
  repeat' (with_reducible (first | exact f_none | refine f_ite (fun hc => ?_) (fun hc => ?_) | refine f_letM (Iv_u (by assumption) ?_) (fun M' hM' => ?_) | refine f_letI (fun v => ?_) | refine f_cs (fun x => ?_) (fun E => ?_) | refine f_letM (Iv_cp (by assumption) ?_) (fun M' hM' => ?_) | refine f_letM (by assumption) (fun M' hM' => ?_) | refine f_bind (hd_gX12_clearLevel h00 (by assumption) ?_) (fun y hy => ?_) | refine f_bind (hd_gX12_level h00 (by assumption) ?_) (fun y hy => ?_) | refine f_bind (hd_gX12_keepRegisters h00 (by assumption) ?_) (fun y hy => ?_)  | refine f_bindF (by assumption) ?_ (fun j hj => ?_) | refine f_bindZ (by assumption) (fun j hj hz => ?_) | refine f_some ?_ | assumption | exact okl (by assumption) | exact okw (by assumption) (by assumption) (by assumption) (by decide) | exact h00 | refine Iv_u (by assumption) ?_ | refine Iv_cp (by assumption) ?_ | refine Iv_r ?_ ?_ ?_ | refine Iv_new (by assumption) (by assumption) (by assumption) | refine Iv_th (by assumption) | refine Iv_u ?_ ?_ | refine Iv_cp ?_ ?_ | apply And.intro))
set_option maxRecDepth 100000 in
set_option maxHeartbeats 4000000 in
theorem hd_fX12_beginBlock (h00 : okr W ρ0 0) : ∀ (n : Nat) (pc : Nat) (r0 : Nat) (x1 : Int32) (x2 : Int32) (x3 : Int32) (x4 : Int32) (x5 : Int32) (x6 : Int32) (s0 : Int32) (s1 : Int32) (q2 : Nat) (M : ao_M) (ρ : ao_H), Iv W M0 ρ0 M ρ → okr W ρ0 r0 → okr W ρ0 q2 → ∀ z, fX12_beginBlock n pc r0 x1 x2 x3 x4 x5 x6 s0 s1 q2 M ρ = some z → Iv W M0 ρ0 z.2 ρ := by
  intro n
  induction n with
  | zero => intros; exact absurd (by assumption) (by simp [fX12_beginBlock.eq_1])
  | succ n ih =>
    intro pc r0 x1 x2 x3 x4 x5 x6 s0 s1 q2 M ρ hI h_r0 h_q2
    rw [fX12_beginBlock.eq_2]
    repeat' (with_reducible (first | exact f_none | refine f_ite (fun hc => ?_) (fun hc => ?_) | refine f_letM (Iv_u (by assumption) ?_) (fun M' hM' => ?_) | refine f_letI (fun v => ?_) | refine f_cs (fun x => ?_) (fun E => ?_) | refine f_letM (Iv_cp (by assumption) ?_) (fun M' hM' => ?_) | refine f_letM (by assumption) (fun M' hM' => ?_) | refine ih _ _ _ _ _ _ _ _ _ _ _ _ _ (by assumption) ?_ ?_ | refine ih _ _ _ _ _ _ _ _ _ _ _ _ _ ?_ ?_ ?_ | refine f_bind (ih _ _ _ _ _ _ _ _ _ _ _ _ _ (by assumption) ?_ ?_) (fun y hy => ?_) | refine f_bind (hd_gX12_isBusy h00 (by assumption) ?_) (fun y hy => ?_) | refine f_bind (hd_gX12_openLevel h00 (by assumption) ?_) (fun y hy => ?_) | refine f_bind (hd_gX12_level h00 (by assumption) ?_) (fun y hy => ?_)  | refine f_bindF (by assumption) ?_ (fun j hj => ?_) | refine f_bindZ (by assumption) (fun j hj hz => ?_) | refine f_some ?_ | assumption | exact okl (by assumption) | exact okw (by assumption) (by assumption) (by assumption) (by decide) | exact h00 | refine Iv_u (by assumption) ?_ | refine Iv_cp (by assumption) ?_ | refine Iv_r ?_ ?_ ?_ | refine Iv_new (by assumption) (by assumption) (by assumption) | refine Iv_th (by assumption) | refine Iv_u ?_ ?_ | refine Iv_cp ?_ ?_ | apply And.intro))
set_option maxRecDepth 100000 in
set_option maxHeartbeats 4000000 in
theorem hd_gX12_beginBlock (h00 : okr W ρ0 0) {n : Nat} {r0 : Nat} {x1 : Int32} {x2 : Int32} {x3 : Int32} {M : ao_M} {ρ : ao_H} (hI : Iv W M0 ρ0 M ρ) (h_r0 : okr W ρ0 r0) : ∀ z, gX12_beginBlock n r0 x1 x2 x3 M ρ = some z → Iv W M0 ρ0 z.2 ρ := by
  unfold gX12_beginBlock
  exact hd_fX12_beginBlock h00 _ _ _ _ _ _ _ _ _ _ _ _ _ _ hI (by first | assumption | exact h00 | exact fun h => absurd h (by decide)) (by first | assumption | exact h00 | exact fun h => absurd h (by decide))
set_option maxRecDepth 100000 in
set_option maxHeartbeats 4000000 in
theorem hd_fX12_hasWrites (h00 : okr W ρ0 0) : ∀ (n : Nat) (pc : Nat) (r0 : Nat) (x1 : Int32) (x2 : Int32) (M : ao_M) (ρ : ao_H), Iv W M0 ρ0 M ρ → okr W ρ0 r0 → ∀ z, fX12_hasWrites n pc r0 x1 x2 M ρ = some z → Iv W M0 ρ0 z.2 ρ := by
  intro n
  induction n with
  | zero => intros; exact absurd (by assumption) (by simp [fX12_hasWrites.eq_1])
  | succ n ih =>
    intro pc r0 x1 x2 M ρ hI h_r0
    rw [fX12_hasWrites.eq_2]
    repeat' (with_reducible (first | exact f_none | refine f_ite (fun hc => ?_) (fun hc => ?_) | refine f_letM (Iv_u (by assumption) ?_) (fun M' hM' => ?_) | refine f_letI (fun v => ?_) | refine f_cs (fun x => ?_) (fun E => ?_) | refine f_letM (Iv_cp (by assumption) ?_) (fun M' hM' => ?_) | refine f_letM (by assumption) (fun M' hM' => ?_) | refine ih _ _ _ _ _ _ (by assumption) ?_ | refine ih _ _ _ _ _ _ ?_ ?_ | refine f_bind (ih _ _ _ _ _ _ (by assumption) ?_) (fun y hy => ?_) | refine f_bind (hd_gX12_cell h00 (by assumption) ?_) (fun y hy => ?_)  | refine f_bindF (by assumption) ?_ (fun j hj => ?_) | refine f_bindZ (by assumption) (fun j hj hz => ?_) | refine f_some ?_ | assumption | exact okl (by assumption) | exact okw (by assumption) (by assumption) (by assumption) (by decide) | exact h00 | refine Iv_u (by assumption) ?_ | refine Iv_cp (by assumption) ?_ | refine Iv_r ?_ ?_ ?_ | refine Iv_new (by assumption) (by assumption) (by assumption) | refine Iv_th (by assumption) | refine Iv_u ?_ ?_ | refine Iv_cp ?_ ?_ | apply And.intro))
set_option maxRecDepth 100000 in
set_option maxHeartbeats 4000000 in
theorem hd_gX12_hasWrites (h00 : okr W ρ0 0) {n : Nat} {r0 : Nat} {x1 : Int32} {M : ao_M} {ρ : ao_H} (hI : Iv W M0 ρ0 M ρ) (h_r0 : okr W ρ0 r0) : ∀ z, gX12_hasWrites n r0 x1 M ρ = some z → Iv W M0 ρ0 z.2 ρ := by
  unfold gX12_hasWrites
  exact hd_fX12_hasWrites h00 _ _ _ _ _ _ _ hI (by first | assumption | exact h00 | exact fun h => absurd h (by decide))
set_option maxRecDepth 100000 in
set_option maxHeartbeats 4000000 in
theorem hd_fX12_mayEnd (h00 : okr W ρ0 0) : ∀ (n : Nat) (pc : Nat) (r0 : Nat) (x1 : Int32) (x2 : Int32) (x3 : Int32) (x4 : Int32) (x5 : Int32) (s0 : Int32) (M : ao_M) (ρ : ao_H), Iv W M0 ρ0 M ρ → okr W ρ0 r0 → ∀ z, fX12_mayEnd n pc r0 x1 x2 x3 x4 x5 s0 M ρ = some z → Iv W M0 ρ0 z.2.1 z.2.2 := by
  intro n
  induction n with
  | zero => intros; exact absurd (by assumption) (by simp [fX12_mayEnd.eq_1])
  | succ n ih =>
    intro pc r0 x1 x2 x3 x4 x5 s0 M ρ hI h_r0
    rw [fX12_mayEnd.eq_2]
    repeat' (with_reducible (first | exact f_none | refine f_ite (fun hc => ?_) (fun hc => ?_) | refine f_letM (Iv_u (by assumption) ?_) (fun M' hM' => ?_) | refine f_letI (fun v => ?_) | refine f_cs (fun x => ?_) (fun E => ?_) | refine f_letM (Iv_cp (by assumption) ?_) (fun M' hM' => ?_) | refine f_letM (by assumption) (fun M' hM' => ?_) | refine ih _ _ _ _ _ _ _ _ _ _ (by assumption) ?_ | refine ih _ _ _ _ _ _ _ _ _ _ ?_ ?_ | refine f_bind (ih _ _ _ _ _ _ _ _ _ _ (by assumption) ?_) (fun y hy => ?_) | refine f_bind (hd_gX12_hasWrites h00 (by assumption) ?_) (fun y hy => ?_) | refine f_bind (hd_gX12_cell h00 (by assumption) ?_) (fun y hy => ?_) | refine f_bind (hd_gX12_wins h00 (by assumption) ?_) (fun y hy => ?_) | refine f_bind (hd_gX12_goesOn h00 (by assumption) ?_) (fun y hy => ?_)  | refine f_bindF (by assumption) ?_ (fun j hj => ?_) | refine f_bindZ (by assumption) (fun j hj hz => ?_) | refine f_some ?_ | assumption | exact okl (by assumption) | exact okw (by assumption) (by assumption) (by assumption) (by decide) | exact h00 | refine Iv_u (by assumption) ?_ | refine Iv_cp (by assumption) ?_ | refine Iv_r ?_ ?_ ?_ | refine Iv_new (by assumption) (by assumption) (by assumption) | refine Iv_th (by assumption) | refine Iv_u ?_ ?_ | refine Iv_cp ?_ ?_ | apply And.intro))
set_option maxRecDepth 100000 in
set_option maxHeartbeats 4000000 in
theorem hd_gX12_mayEnd (h00 : okr W ρ0 0) {n : Nat} {r0 : Nat} {x1 : Int32} {M : ao_M} {ρ : ao_H} (hI : Iv W M0 ρ0 M ρ) (h_r0 : okr W ρ0 r0) : ∀ z, gX12_mayEnd n r0 x1 M ρ = some z → Iv W M0 ρ0 z.2.1 z.2.2 := by
  unfold gX12_mayEnd
  exact hd_fX12_mayEnd h00 _ _ _ _ _ _ _ _ _ _ _ hI (by first | assumption | exact h00 | exact fun h => absurd h (by decide))
set_option maxRecDepth 100000 in
set_option maxHeartbeats 4000000 in
theorem hd_fX12_endPart (h00 : okr W ρ0 0) : ∀ (n : Nat) (pc : Nat) (r0 : Nat) (x1 : Int32) (x2 : Int32) (x3 : Int32) (x4 : Int32) (x5 : Int32) (M : ao_M) (ρ : ao_H), Iv W M0 ρ0 M ρ → okr W ρ0 r0 → ∀ z, fX12_endPart n pc r0 x1 x2 x3 x4 x5 M ρ = some z → Iv W M0 ρ0 z ρ := by
  intro n
  induction n with
  | zero => intros; exact absurd (by assumption) (by simp [fX12_endPart.eq_1])
  | succ n ih =>
    intro pc r0 x1 x2 x3 x4 x5 M ρ hI h_r0
    rw [fX12_endPart.eq_2]
    repeat' (with_reducible (first | exact f_none | refine f_ite (fun hc => ?_) (fun hc => ?_) | refine f_letM (Iv_u (by assumption) ?_) (fun M' hM' => ?_) | refine f_letI (fun v => ?_) | refine f_cs (fun x => ?_) (fun E => ?_) | refine f_letM (Iv_cp (by assumption) ?_) (fun M' hM' => ?_) | refine f_letM (by assumption) (fun M' hM' => ?_) | refine ih _ _ _ _ _ _ _ _ _ (by assumption) ?_ | refine ih _ _ _ _ _ _ _ _ _ ?_ ?_ | refine f_bind (ih _ _ _ _ _ _ _ _ _ (by assumption) ?_) (fun y hy => ?_) | refine f_bind (hd_gX12_giveReads h00 (by assumption) ?_) (fun y hy => ?_) | refine f_bind (hd_gX12_level h00 (by assumption) ?_) (fun y hy => ?_) | refine f_bind (hd_gX12_cell h00 (by assumption) ?_) (fun y hy => ?_) | refine f_bind (hd_gX12_isEager h00 (by assumption) ?_) (fun y hy => ?_)  | refine f_bindF (by assumption) ?_ (fun j hj => ?_) | refine f_bindZ (by assumption) (fun j hj hz => ?_) | refine f_some ?_ | assumption | exact okl (by assumption) | exact okw (by assumption) (by assumption) (by assumption) (by decide) | exact h00 | refine Iv_u (by assumption) ?_ | refine Iv_cp (by assumption) ?_ | refine Iv_r ?_ ?_ ?_ | refine Iv_new (by assumption) (by assumption) (by assumption) | refine Iv_th (by assumption) | refine Iv_u ?_ ?_ | refine Iv_cp ?_ ?_ | apply And.intro))
set_option maxRecDepth 100000 in
set_option maxHeartbeats 4000000 in
theorem hd_gX12_endPart (h00 : okr W ρ0 0) {n : Nat} {r0 : Nat} {x1 : Int32} {M : ao_M} {ρ : ao_H} (hI : Iv W M0 ρ0 M ρ) (h_r0 : okr W ρ0 r0) : ∀ z, gX12_endPart n r0 x1 M ρ = some z → Iv W M0 ρ0 z ρ := by
  unfold gX12_endPart
  exact hd_fX12_endPart h00 _ _ _ _ _ _ _ _ _ _ hI (by first | assumption | exact h00 | exact fun h => absurd h (by decide))
set_option maxRecDepth 100000 in
set_option maxHeartbeats 4000000 in
theorem hd_fX12_done (h00 : okr W ρ0 0) : ∀ (n : Nat) (pc : Nat) (r0 : Nat) (x1 : Int32) (x2 : Int32) (x3 : Int32) (x4 : Int32) (s0 : Int32) (s1 : Int32) (q2 : Nat) (M : ao_M) (ρ : ao_H), Iv W M0 ρ0 M ρ → okr W ρ0 r0 → okr W ρ0 q2 → ∀ z, fX12_done n pc r0 x1 x2 x3 x4 s0 s1 q2 M ρ = some z → Iv W M0 ρ0 z.1 z.2 := by
  intro n
  induction n with
  | zero => intros; exact absurd (by assumption) (by simp [fX12_done.eq_1])
  | succ n ih =>
    intro pc r0 x1 x2 x3 x4 s0 s1 q2 M ρ hI h_r0 h_q2
    rw [fX12_done.eq_2]
    repeat' (with_reducible (first | exact f_none | refine f_ite (fun hc => ?_) (fun hc => ?_) | refine f_letM (Iv_u (by assumption) ?_) (fun M' hM' => ?_) | refine f_letI (fun v => ?_) | refine f_cs (fun x => ?_) (fun E => ?_) | refine f_letM (Iv_cp (by assumption) ?_) (fun M' hM' => ?_) | refine f_letM (by assumption) (fun M' hM' => ?_) | refine ih _ _ _ _ _ _ _ _ _ _ _ (by assumption) ?_ ?_ | refine ih _ _ _ _ _ _ _ _ _ _ _ ?_ ?_ ?_ | refine f_bind (ih _ _ _ _ _ _ _ _ _ _ _ (by assumption) ?_ ?_) (fun y hy => ?_) | refine f_bind (hd_gX12_newRecord h00 (by assumption) ?_) (fun y hy => ?_) | refine f_bind (hd_gX12_cell h00 (by assumption) ?_) (fun y hy => ?_) | refine f_bind (hd_gX12_isEager h00 (by assumption) ?_) (fun y hy => ?_) | refine f_bind (hd_gX12_hasWrites h00 (by assumption) ?_) (fun y hy => ?_) | refine f_bind (hd_gX12_free h00 (by assumption) ?_) (fun y hy => ?_) | refine f_bind (hd_gX12_remember h00 (by assumption) ?_) (fun y hy => ?_) | refine f_bind (hd_gX12_level h00 (by assumption) ?_) (fun y hy => ?_) | refine f_bind (hd_gX12_clearLevel h00 (by assumption) ?_) (fun y hy => ?_) | refine f_bind (hd_gX12_say h00 (by assumption) ?_) (fun y hy => ?_)  | refine f_bindF (by assumption) ?_ (fun j hj => ?_) | refine f_bindZ (by assumption) (fun j hj hz => ?_) | refine f_some ?_ | assumption | exact okl (by assumption) | exact okw (by assumption) (by assumption) (by assumption) (by decide) | exact h00 | refine Iv_u (by assumption) ?_ | refine Iv_cp (by assumption) ?_ | refine Iv_r ?_ ?_ ?_ | refine Iv_new (by assumption) (by assumption) (by assumption) | refine Iv_th (by assumption) | refine Iv_u ?_ ?_ | refine Iv_cp ?_ ?_ | apply And.intro))
set_option maxRecDepth 100000 in
set_option maxHeartbeats 4000000 in
theorem hd_gX12_done (h00 : okr W ρ0 0) {n : Nat} {r0 : Nat} {x1 : Int32} {M : ao_M} {ρ : ao_H} (hI : Iv W M0 ρ0 M ρ) (h_r0 : okr W ρ0 r0) : ∀ z, gX12_done n r0 x1 M ρ = some z → Iv W M0 ρ0 z.1 z.2 := by
  unfold gX12_done
  exact hd_fX12_done h00 _ _ _ _ _ _ _ _ _ _ _ _ hI (by first | assumption | exact h00 | exact fun h => absurd h (by decide)) (by first | assumption | exact h00 | exact fun h => absurd h (by decide))
set_option maxRecDepth 100000 in
set_option maxHeartbeats 4000000 in
theorem hd_fX12_endBlock (h00 : okr W ρ0 0) : ∀ (n : Nat) (pc : Nat) (r0 : Nat) (x1 : Int32) (x2 : Int32) (s0 : Int32) (M : ao_M) (ρ : ao_H), Iv W M0 ρ0 M ρ → okr W ρ0 r0 → ∀ z, fX12_endBlock n pc r0 x1 x2 s0 M ρ = some z → Iv W M0 ρ0 z.2.1 z.2.2 := by
  intro n
  induction n with
  | zero => intros; exact absurd (by assumption) (by simp [fX12_endBlock.eq_1])
  | succ n ih =>
    intro pc r0 x1 x2 s0 M ρ hI h_r0
    rw [fX12_endBlock.eq_2]
    repeat' (with_reducible (first | exact f_none | refine f_ite (fun hc => ?_) (fun hc => ?_) | refine f_letM (Iv_u (by assumption) ?_) (fun M' hM' => ?_) | refine f_letI (fun v => ?_) | refine f_cs (fun x => ?_) (fun E => ?_) | refine f_letM (Iv_cp (by assumption) ?_) (fun M' hM' => ?_) | refine f_letM (by assumption) (fun M' hM' => ?_) | refine ih _ _ _ _ _ _ _ (by assumption) ?_ | refine ih _ _ _ _ _ _ _ ?_ ?_ | refine f_bind (ih _ _ _ _ _ _ _ (by assumption) ?_) (fun y hy => ?_) | refine f_bind (hd_gX12_level h00 (by assumption) ?_) (fun y hy => ?_) | refine f_bind (hd_gX12_mayEnd h00 (by assumption) ?_) (fun y hy => ?_) | refine f_bind (hd_gX12_endPart h00 (by assumption) ?_) (fun y hy => ?_) | refine f_bind (hd_gX12_done h00 (by assumption) ?_) (fun y hy => ?_)  | refine f_bindF (by assumption) ?_ (fun j hj => ?_) | refine f_bindZ (by assumption) (fun j hj hz => ?_) | refine f_some ?_ | assumption | exact okl (by assumption) | exact okw (by assumption) (by assumption) (by assumption) (by decide) | exact h00 | refine Iv_u (by assumption) ?_ | refine Iv_cp (by assumption) ?_ | refine Iv_r ?_ ?_ ?_ | refine Iv_new (by assumption) (by assumption) (by assumption) | refine Iv_th (by assumption) | refine Iv_u ?_ ?_ | refine Iv_cp ?_ ?_ | apply And.intro))
set_option maxRecDepth 100000 in
set_option maxHeartbeats 4000000 in
theorem hd_gX12_endBlock (h00 : okr W ρ0 0) {n : Nat} {r0 : Nat} {x1 : Int32} {M : ao_M} {ρ : ao_H} (hI : Iv W M0 ρ0 M ρ) (h_r0 : okr W ρ0 r0) : ∀ z, gX12_endBlock n r0 x1 M ρ = some z → Iv W M0 ρ0 z.2.1 z.2.2 := by
  unfold gX12_endBlock
  exact hd_fX12_endBlock h00 _ _ _ _ _ _ _ _ hI (by first | assumption | exact h00 | exact fun h => absurd h (by decide))
set_option maxRecDepth 100000 in
set_option maxHeartbeats 4000000 in
theorem hd_fX12_retry (h00 : okr W ρ0 0) : ∀ (n : Nat) (pc : Nat) (r0 : Nat) (x1 : Int32) (x2 : Int32) (x3 : Int32) (s0 : Int32) (s1 : Int32) (q2 : Nat) (M : ao_M) (ρ : ao_H), Iv W M0 ρ0 M ρ → okr W ρ0 r0 → okr W ρ0 q2 → ∀ z, fX12_retry n pc r0 x1 x2 x3 s0 s1 q2 M ρ = some z → Iv W M0 ρ0 z.2.1 z.2.2 := by
  intro n
  induction n with
  | zero => intros; exact absurd (by assumption) (by simp [fX12_retry.eq_1])
  | succ n ih =>
    intro pc r0 x1 x2 x3 s0 s1 q2 M ρ hI h_r0 h_q2
    rw [fX12_retry.eq_2]
    repeat' (with_reducible (first | exact f_none | refine f_ite (fun hc => ?_) (fun hc => ?_) | refine f_letM (Iv_u (by assumption) ?_) (fun M' hM' => ?_) | refine f_letI (fun v => ?_) | refine f_cs (fun x => ?_) (fun E => ?_) | refine f_letM (Iv_cp (by assumption) ?_) (fun M' hM' => ?_) | refine f_letM (by assumption) (fun M' hM' => ?_) | refine ih _ _ _ _ _ _ _ _ _ _ (by assumption) ?_ ?_ | refine ih _ _ _ _ _ _ _ _ _ _ ?_ ?_ ?_ | refine f_bind (ih _ _ _ _ _ _ _ _ _ _ (by assumption) ?_ ?_) (fun y hy => ?_) | refine f_bind (hd_gX12_level h00 (by assumption) ?_) (fun y hy => ?_) | refine f_bind (hd_gX12_takeBackTo h00 (by assumption) ?_) (fun y hy => ?_) | refine f_bind (hd_gX12_free h00 (by assumption) ?_) (fun y hy => ?_)  | refine f_bindF (by assumption) ?_ (fun j hj => ?_) | refine f_bindZ (by assumption) (fun j hj hz => ?_) | refine f_some ?_ | assumption | exact okl (by assumption) | exact okw (by assumption) (by assumption) (by assumption) (by decide) | exact h00 | refine Iv_u (by assumption) ?_ | refine Iv_cp (by assumption) ?_ | refine Iv_r ?_ ?_ ?_ | refine Iv_new (by assumption) (by assumption) (by assumption) | refine Iv_th (by assumption) | refine Iv_u ?_ ?_ | refine Iv_cp ?_ ?_ | apply And.intro))
set_option maxRecDepth 100000 in
set_option maxHeartbeats 4000000 in
theorem hd_gX12_retry (h00 : okr W ρ0 0) {n : Nat} {r0 : Nat} {x1 : Int32} {M : ao_M} {ρ : ao_H} (hI : Iv W M0 ρ0 M ρ) (h_r0 : okr W ρ0 r0) : ∀ z, gX12_retry n r0 x1 M ρ = some z → Iv W M0 ρ0 z.2.1 z.2.2 := by
  unfold gX12_retry
  exact hd_fX12_retry h00 _ _ _ _ _ _ _ _ _ _ _ hI (by first | assumption | exact h00 | exact fun h => absurd h (by decide)) (by first | assumption | exact h00 | exact fun h => absurd h (by decide))
set_option maxRecDepth 100000 in
set_option maxHeartbeats 4000000 in
theorem hd_fX12_leave (h00 : okr W ρ0 0) : ∀ (n : Nat) (pc : Nat) (r0 : Nat) (x1 : Int32) (M : ao_M) (ρ : ao_H), Iv W M0 ρ0 M ρ → okr W ρ0 r0 → ∀ z, fX12_leave n pc r0 x1 M ρ = some z → Iv W M0 ρ0 z.1 z.2 := by
  intro n
  induction n with
  | zero => intros; exact absurd (by assumption) (by simp [fX12_leave.eq_1])
  | succ n ih =>
    intro pc r0 x1 M ρ hI h_r0
    rw [fX12_leave.eq_2]
    repeat' (with_reducible (first | exact f_none | refine f_ite (fun hc => ?_) (fun hc => ?_) | refine f_letM (Iv_u (by assumption) ?_) (fun M' hM' => ?_) | refine f_letI (fun v => ?_) | refine f_cs (fun x => ?_) (fun E => ?_) | refine f_letM (Iv_cp (by assumption) ?_) (fun M' hM' => ?_) | refine f_letM (by assumption) (fun M' hM' => ?_) | refine ih _ _ _ _ _ (by assumption) ?_ | refine ih _ _ _ _ _ ?_ ?_ | refine f_bind (ih _ _ _ _ _ (by assumption) ?_) (fun y hy => ?_) | refine f_bind (hd_gX12_free h00 (by assumption) ?_) (fun y hy => ?_) | refine f_bind (hd_gX12_clearLevel h00 (by assumption) ?_) (fun y hy => ?_)  | refine f_bindF (by assumption) ?_ (fun j hj => ?_) | refine f_bindZ (by assumption) (fun j hj hz => ?_) | refine f_some ?_ | assumption | exact okl (by assumption) | exact okw (by assumption) (by assumption) (by assumption) (by decide) | exact h00 | refine Iv_u (by assumption) ?_ | refine Iv_cp (by assumption) ?_ | refine Iv_r ?_ ?_ ?_ | refine Iv_new (by assumption) (by assumption) (by assumption) | refine Iv_th (by assumption) | refine Iv_u ?_ ?_ | refine Iv_cp ?_ ?_ | apply And.intro))
set_option maxRecDepth 100000 in
set_option maxHeartbeats 4000000 in
theorem hd_gX12_leave (h00 : okr W ρ0 0) {n : Nat} {r0 : Nat} {x1 : Int32} {M : ao_M} {ρ : ao_H} (hI : Iv W M0 ρ0 M ρ) (h_r0 : okr W ρ0 r0) : ∀ z, gX12_leave n r0 x1 M ρ = some z → Iv W M0 ρ0 z.1 z.2 := by
  unfold gX12_leave
  exact hd_fX12_leave h00 _ _ _ _ _ _ hI (by first | assumption | exact h00 | exact fun h => absurd h (by decide))
set_option maxRecDepth 100000 in
set_option maxHeartbeats 4000000 in
theorem hd_fX12_quit (h00 : okr W ρ0 0) : ∀ (n : Nat) (pc : Nat) (r0 : Nat) (x1 : Int32) (x2 : Int32) (x3 : Int32) (M : ao_M) (ρ : ao_H), Iv W M0 ρ0 M ρ → okr W ρ0 r0 → ∀ z, fX12_quit n pc r0 x1 x2 x3 M ρ = some z → Iv W M0 ρ0 z.2.1 z.2.2 := by
  intro n
  induction n with
  | zero => intros; exact absurd (by assumption) (by simp [fX12_quit.eq_1])
  | succ n ih =>
    intro pc r0 x1 x2 x3 M ρ hI h_r0
    rw [fX12_quit.eq_2]
    repeat' (with_reducible (first | exact f_none | refine f_ite (fun hc => ?_) (fun hc => ?_) | refine f_letM (Iv_u (by assumption) ?_) (fun M' hM' => ?_) | refine f_letI (fun v => ?_) | refine f_cs (fun x => ?_) (fun E => ?_) | refine f_letM (Iv_cp (by assumption) ?_) (fun M' hM' => ?_) | refine f_letM (by assumption) (fun M' hM' => ?_) | refine ih _ _ _ _ _ _ _ (by assumption) ?_ | refine ih _ _ _ _ _ _ _ ?_ ?_ | refine f_bind (ih _ _ _ _ _ _ _ (by assumption) ?_) (fun y hy => ?_) | refine f_bind (hd_gX12_level h00 (by assumption) ?_) (fun y hy => ?_) | refine f_bind (hd_gX12_takeBackTo h00 (by assumption) ?_) (fun y hy => ?_) | refine f_bind (hd_gX12_leave h00 (by assumption) ?_) (fun y hy => ?_)  | refine f_bindF (by assumption) ?_ (fun j hj => ?_) | refine f_bindZ (by assumption) (fun j hj hz => ?_) | refine f_some ?_ | assumption | exact okl (by assumption) | exact okw (by assumption) (by assumption) (by assumption) (by decide) | exact h00 | refine Iv_u (by assumption) ?_ | refine Iv_cp (by assumption) ?_ | refine Iv_r ?_ ?_ ?_ | refine Iv_new (by assumption) (by assumption) (by assumption) | refine Iv_th (by assumption) | refine Iv_u ?_ ?_ | refine Iv_cp ?_ ?_ | apply And.intro))
set_option maxRecDepth 100000 in
set_option maxHeartbeats 4000000 in
theorem hd_gX12_quit (h00 : okr W ρ0 0) {n : Nat} {r0 : Nat} {x1 : Int32} {M : ao_M} {ρ : ao_H} (hI : Iv W M0 ρ0 M ρ) (h_r0 : okr W ρ0 r0) : ∀ z, gX12_quit n r0 x1 M ρ = some z → Iv W M0 ρ0 z.2.1 z.2.2 := by
  unfold gX12_quit
  exact hd_fX12_quit h00 _ _ _ _ _ _ _ _ hI (by first | assumption | exact h00 | exact fun h => absurd h (by decide))
set_option maxRecDepth 100000 in
set_option maxHeartbeats 4000000 in
theorem hd_fX12_fail (h00 : okr W ρ0 0) : ∀ (n : Nat) (pc : Nat) (r0 : Nat) (x1 : Int32) (x2 : Int32) (x3 : Int32) (x4 : Int32) (s0 : Int32) (M : ao_M) (ρ : ao_H), Iv W M0 ρ0 M ρ → okr W ρ0 r0 → ∀ z, fX12_fail n pc r0 x1 x2 x3 x4 s0 M ρ = some z → Iv W M0 ρ0 z.2.1 z.2.2 := by
  intro n
  induction n with
  | zero => intros; exact absurd (by assumption) (by simp [fX12_fail.eq_1])
  | succ n ih =>
    intro pc r0 x1 x2 x3 x4 s0 M ρ hI h_r0
    rw [fX12_fail.eq_2]
    repeat' (with_reducible (first | exact f_none | refine f_ite (fun hc => ?_) (fun hc => ?_) | refine f_letM (Iv_u (by assumption) ?_) (fun M' hM' => ?_) | refine f_letI (fun v => ?_) | refine f_cs (fun x => ?_) (fun E => ?_) | refine f_letM (Iv_cp (by assumption) ?_) (fun M' hM' => ?_) | refine f_letM (by assumption) (fun M' hM' => ?_) | refine ih _ _ _ _ _ _ _ _ _ (by assumption) ?_ | refine ih _ _ _ _ _ _ _ _ _ ?_ ?_ | refine f_bind (ih _ _ _ _ _ _ _ _ _ (by assumption) ?_) (fun y hy => ?_) | refine f_bind (hd_gX12_level h00 (by assumption) ?_) (fun y hy => ?_) | refine f_bind (hd_gX12_takeBackTo h00 (by assumption) ?_) (fun y hy => ?_) | refine f_bind (hd_gX12_leave h00 (by assumption) ?_) (fun y hy => ?_)  | refine f_bindF (by assumption) ?_ (fun j hj => ?_) | refine f_bindZ (by assumption) (fun j hj hz => ?_) | refine f_some ?_ | assumption | exact okl (by assumption) | exact okw (by assumption) (by assumption) (by assumption) (by decide) | exact h00 | refine Iv_u (by assumption) ?_ | refine Iv_cp (by assumption) ?_ | refine Iv_r ?_ ?_ ?_ | refine Iv_new (by assumption) (by assumption) (by assumption) | refine Iv_th (by assumption) | refine Iv_u ?_ ?_ | refine Iv_cp ?_ ?_ | apply And.intro))
set_option maxRecDepth 100000 in
set_option maxHeartbeats 4000000 in
theorem hd_gX12_fail (h00 : okr W ρ0 0) {n : Nat} {r0 : Nat} {x1 : Int32} {x2 : Int32} {M : ao_M} {ρ : ao_H} (hI : Iv W M0 ρ0 M ρ) (h_r0 : okr W ρ0 r0) : ∀ z, gX12_fail n r0 x1 x2 M ρ = some z → Iv W M0 ρ0 z.2.1 z.2.2 := by
  unfold gX12_fail
  exact hd_fX12_fail h00 _ _ _ _ _ _ _ _ _ _ hI (by first | assumption | exact h00 | exact fun h => absurd h (by decide))
set_option maxRecDepth 100000 in
set_option maxHeartbeats 4000000 in
theorem hd_fX12_step (h00 : okr W ρ0 0) : ∀ (n : Nat) (pc : Nat) (r0 : Nat) (x1 : Int32) (x2 : Int32) (x3 : Int32) (x4 : Int32) (x5 : Int32) (x6 : Int32) (s0 : Int32) (s1 : Int32) (q2 : Nat) (M : ao_M) (ρ : ao_H), Iv W M0 ρ0 M ρ → okr W ρ0 r0 → okr W ρ0 q2 → ∀ z, fX12_step n pc r0 x1 x2 x3 x4 x5 x6 s0 s1 q2 M ρ = some z → Iv W M0 ρ0 z.2.1 z.2.2 := by
  intro n
  induction n with
  | zero => intros; exact absurd (by assumption) (by simp [fX12_step.eq_1])
  | succ n ih =>
    intro pc r0 x1 x2 x3 x4 x5 x6 s0 s1 q2 M ρ hI h_r0 h_q2
    rw [fX12_step.eq_2]
    repeat' (with_reducible (first | exact f_none | refine f_ite (fun hc => ?_) (fun hc => ?_) | refine f_letM (Iv_u (by assumption) ?_) (fun M' hM' => ?_) | refine f_letI (fun v => ?_) | refine f_cs (fun x => ?_) (fun E => ?_) | refine f_letM (Iv_cp (by assumption) ?_) (fun M' hM' => ?_) | refine f_letM (by assumption) (fun M' hM' => ?_) | refine ih _ _ _ _ _ _ _ _ _ _ _ _ _ (by assumption) ?_ ?_ | refine ih _ _ _ _ _ _ _ _ _ _ _ _ _ ?_ ?_ ?_ | refine f_bind (ih _ _ _ _ _ _ _ _ _ _ _ _ _ (by assumption) ?_ ?_) (fun y hy => ?_) | refine f_bind (hd_gX12_push h00 (by assumption) ?_) (fun y hy => ?_) | refine f_bind (hd_gX12_doLook h00 (by assumption) ?_) (fun y hy => ?_) | refine f_bind (hd_gX12_pop h00 (by assumption) ?_) (fun y hy => ?_) | refine f_bind (hd_gX12_doWrite h00 (by assumption) ?_) (fun y hy => ?_) | refine f_bind (hd_gX12_level h00 (by assumption) ?_) (fun y hy => ?_) | refine f_bind (hd_gX12_hold h00 (by assumption) ?_) (fun y hy => ?_) | refine f_bind (hd_gX12_say h00 (by assumption) ?_) (fun y hy => ?_) | refine f_bind (hd_gX12_beginBlock h00 (by assumption) ?_) (fun y hy => ?_) | refine f_bind (hd_gX12_endBlock h00 (by assumption) ?_) (fun y hy => ?_) | refine f_bind (hd_gX12_retry h00 (by assumption) ?_) (fun y hy => ?_) | refine f_bind (hd_gX12_quit h00 (by assumption) ?_) (fun y hy => ?_) | refine f_bind (hd_gX12_fail h00 (by assumption) ?_) (fun y hy => ?_)  | refine f_bindF (by assumption) ?_ (fun j hj => ?_) | refine f_bindZ (by assumption) (fun j hj hz => ?_) | refine f_some ?_ | assumption | exact okl (by assumption) | exact okw (by assumption) (by assumption) (by assumption) (by decide) | exact h00 | refine Iv_u (by assumption) ?_ | refine Iv_cp (by assumption) ?_ | refine Iv_r ?_ ?_ ?_ | refine Iv_new (by assumption) (by assumption) (by assumption) | refine Iv_th (by assumption) | refine Iv_u ?_ ?_ | refine Iv_cp ?_ ?_ | apply And.intro))
set_option maxRecDepth 100000 in
set_option maxHeartbeats 4000000 in
theorem hd_gX12_step (h00 : okr W ρ0 0) {n : Nat} {r0 : Nat} {x1 : Int32} {M : ao_M} {ρ : ao_H} (hI : Iv W M0 ρ0 M ρ) (h_r0 : okr W ρ0 r0) : ∀ z, gX12_step n r0 x1 M ρ = some z → Iv W M0 ρ0 z.2.1 z.2.2 := by
  unfold gX12_step
  exact hd_fX12_step h00 _ _ _ _ _ _ _ _ _ _ _ _ _ _ hI (by first | assumption | exact h00 | exact fun h => absurd h (by decide)) (by first | assumption | exact h00 | exact fun h => absurd h (by decide))
set_option maxRecDepth 100000 in
set_option maxHeartbeats 4000000 in
theorem hd_fX12_takeTurn (h00 : okr W ρ0 0) : ∀ (n : Nat) (pc : Nat) (r0 : Nat) (x1 : Int32) (x2 : Int32) (s0 : Int32) (M : ao_M) (ρ : ao_H), Iv W M0 ρ0 M ρ → okr W ρ0 r0 → ∀ z, fX12_takeTurn n pc r0 x1 x2 s0 M ρ = some z → Iv W M0 ρ0 z.2.1 z.2.2 := by
  intro n
  induction n with
  | zero => intros; exact absurd (by assumption) (by simp [fX12_takeTurn.eq_1])
  | succ n ih =>
    intro pc r0 x1 x2 s0 M ρ hI h_r0
    rw [fX12_takeTurn.eq_2]
    repeat' (with_reducible (first | exact f_none | refine f_ite (fun hc => ?_) (fun hc => ?_) | refine f_letM (Iv_u (by assumption) ?_) (fun M' hM' => ?_) | refine f_letI (fun v => ?_) | refine f_cs (fun x => ?_) (fun E => ?_) | refine f_letM (Iv_cp (by assumption) ?_) (fun M' hM' => ?_) | refine f_letM (by assumption) (fun M' hM' => ?_) | refine ih _ _ _ _ _ _ _ (by assumption) ?_ | refine ih _ _ _ _ _ _ _ ?_ ?_ | refine f_bind (ih _ _ _ _ _ _ _ (by assumption) ?_) (fun y hy => ?_) | refine f_bind (hd_gX12_wakes h00 (by assumption) ?_) (fun y hy => ?_) | refine f_bind (hd_gX12_isBusy h00 (by assumption) ?_) (fun y hy => ?_) | refine f_bind (hd_gX12_restart h00 (by assumption) ?_) (fun y hy => ?_) | refine f_bind (hd_gX12_step h00 (by assumption) ?_) (fun y hy => ?_)  | refine f_bindF (by assumption) ?_ (fun j hj => ?_) | refine f_bindZ (by assumption) (fun j hj hz => ?_) | refine f_some ?_ | assumption | exact okl (by assumption) | exact okw (by assumption) (by assumption) (by assumption) (by decide) | exact h00 | refine Iv_u (by assumption) ?_ | refine Iv_cp (by assumption) ?_ | refine Iv_r ?_ ?_ ?_ | refine Iv_new (by assumption) (by assumption) (by assumption) | refine Iv_th (by assumption) | refine Iv_u ?_ ?_ | refine Iv_cp ?_ ?_ | apply And.intro))
set_option maxRecDepth 100000 in
set_option maxHeartbeats 4000000 in
theorem hd_gX12_takeTurn (h00 : okr W ρ0 0) {n : Nat} {r0 : Nat} {x1 : Int32} {M : ao_M} {ρ : ao_H} (hI : Iv W M0 ρ0 M ρ) (h_r0 : okr W ρ0 r0) : ∀ z, gX12_takeTurn n r0 x1 M ρ = some z → Iv W M0 ρ0 z.2.1 z.2.2 := by
  unfold gX12_takeTurn
  exact hd_fX12_takeTurn h00 _ _ _ _ _ _ _ _ hI (by first | assumption | exact h00 | exact fun h => absurd h (by decide))
set_option maxRecDepth 100000 in
set_option maxHeartbeats 4000000 in
theorem hd_fX12_turn (h00 : okr W ρ0 0) : ∀ (n : Nat) (pc : Nat) (r0 : Nat) (x1 : Int32) (s0 : Int32) (q1 : Nat) (M : ao_M) (ρ : ao_H), Iv W M0 ρ0 M ρ → okr W ρ0 r0 → okr W ρ0 q1 → ∀ z, fX12_turn n pc r0 x1 s0 q1 M ρ = some z → Iv W M0 ρ0 z.2.1 z.2.2 := by
  intro n
  induction n with
  | zero => intros; exact absurd (by assumption) (by simp [fX12_turn.eq_1])
  | succ n ih =>
    intro pc r0 x1 s0 q1 M ρ hI h_r0 h_q1
    rw [fX12_turn.eq_2]
    repeat' (with_reducible (first | exact f_none | refine f_ite (fun hc => ?_) (fun hc => ?_) | refine f_letM (Iv_u (by assumption) ?_) (fun M' hM' => ?_) | refine f_letI (fun v => ?_) | refine f_cs (fun x => ?_) (fun E => ?_) | refine f_letM (Iv_cp (by assumption) ?_) (fun M' hM' => ?_) | refine f_letM (by assumption) (fun M' hM' => ?_) | refine ih _ _ _ _ _ _ _ (by assumption) ?_ ?_ | refine ih _ _ _ _ _ _ _ ?_ ?_ ?_ | refine f_bind (ih _ _ _ _ _ _ _ (by assumption) ?_ ?_) (fun y hy => ?_) | refine f_bind (hd_gX12_isThread h00 (by assumption)) (fun y hy => ?_) | refine f_bind (hd_gX12_fails h00 (by assumption) ?_) (fun y hy => ?_) | refine f_bind (hd_gX12_takeTurn h00 (by assumption) ?_) (fun y hy => ?_)  | refine f_bindF (by assumption) ?_ (fun j hj => ?_) | refine f_bindZ (by assumption) (fun j hj hz => ?_) | refine f_some ?_ | assumption | exact okl (by assumption) | exact okw (by assumption) (by assumption) (by assumption) (by decide) | exact h00 | refine Iv_u (by assumption) ?_ | refine Iv_cp (by assumption) ?_ | refine Iv_r ?_ ?_ ?_ | refine Iv_new (by assumption) (by assumption) (by assumption) | refine Iv_th (by assumption) | refine Iv_u ?_ ?_ | refine Iv_cp ?_ ?_ | apply And.intro))
set_option maxRecDepth 100000 in
set_option maxHeartbeats 4000000 in
theorem hd_gX12_turn (h00 : okr W ρ0 0) {n : Nat} {r0 : Nat} {x1 : Int32} {M : ao_M} {ρ : ao_H} (hI : Iv W M0 ρ0 M ρ) (h_r0 : okr W ρ0 r0) : ∀ z, gX12_turn n r0 x1 M ρ = some z → Iv W M0 ρ0 z.2.1 z.2.2 := by
  unfold gX12_turn
  exact hd_fX12_turn h00 _ _ _ _ _ _ _ _ hI (by first | assumption | exact h00 | exact fun h => absurd h (by decide)) (by first | assumption | exact h00 | exact fun h => absurd h (by decide))
set_option maxRecDepth 100000 in
set_option maxHeartbeats 4000000 in
theorem hd_fX12_isLive (h00 : okr W ρ0 0) : ∀ (n : Nat) (pc : Nat) (r0 : Nat) (x1 : Int32) (M : ao_M) (ρ : ao_H), Iv W M0 ρ0 M ρ → okr W ρ0 r0 → ∀ z, fX12_isLive n pc r0 x1 M ρ = some z → Iv W M0 ρ0 z.2 ρ := by
  intro n
  induction n with
  | zero => intros; exact absurd (by assumption) (by simp [fX12_isLive.eq_1])
  | succ n ih =>
    intro pc r0 x1 M ρ hI h_r0
    rw [fX12_isLive.eq_2]
    repeat' (with_reducible (first | exact f_none | refine f_ite (fun hc => ?_) (fun hc => ?_) | refine f_letM (Iv_u (by assumption) ?_) (fun M' hM' => ?_) | refine f_letI (fun v => ?_) | refine f_cs (fun x => ?_) (fun E => ?_) | refine f_letM (Iv_cp (by assumption) ?_) (fun M' hM' => ?_) | refine f_letM (by assumption) (fun M' hM' => ?_) | refine ih _ _ _ _ _ (by assumption) ?_ | refine ih _ _ _ _ _ ?_ ?_ | refine f_bind (ih _ _ _ _ _ (by assumption) ?_) (fun y hy => ?_)  | refine f_bindF (by assumption) ?_ (fun j hj => ?_) | refine f_bindZ (by assumption) (fun j hj hz => ?_) | refine f_some ?_ | assumption | exact okl (by assumption) | exact okw (by assumption) (by assumption) (by assumption) (by decide) | exact h00 | refine Iv_u (by assumption) ?_ | refine Iv_cp (by assumption) ?_ | refine Iv_r ?_ ?_ ?_ | refine Iv_new (by assumption) (by assumption) (by assumption) | refine Iv_th (by assumption) | refine Iv_u ?_ ?_ | refine Iv_cp ?_ ?_ | apply And.intro))
set_option maxRecDepth 100000 in
set_option maxHeartbeats 4000000 in
theorem hd_gX12_isLive (h00 : okr W ρ0 0) {n : Nat} {r0 : Nat} {x1 : Int32} {M : ao_M} {ρ : ao_H} (hI : Iv W M0 ρ0 M ρ) (h_r0 : okr W ρ0 r0) : ∀ z, gX12_isLive n r0 x1 M ρ = some z → Iv W M0 ρ0 z.2 ρ := by
  unfold gX12_isLive
  exact hd_fX12_isLive h00 _ _ _ _ _ _ hI (by first | assumption | exact h00 | exact fun h => absurd h (by decide))
set_option maxRecDepth 100000 in
set_option maxHeartbeats 4000000 in
theorem hd_fX12_round (h00 : okr W ρ0 0) : ∀ (n : Nat) (pc : Nat) (r0 : Nat) (x1 : Int32) (x2 : Int32) (x3 : Int32) (x4 : Int32) (x5 : Int32) (x6 : Int32) (q0 : Nat) (s0 : Int32) (q1 : Nat) (M : ao_M) (ρ : ao_H), Iv W M0 ρ0 M ρ → okr W ρ0 r0 → okr W ρ0 q0 → okr W ρ0 q1 → ∀ z, fX12_round n pc r0 x1 x2 x3 x4 x5 x6 q0 s0 q1 M ρ = some z → Iv W M0 ρ0 z.2.1 z.2.2 := by
  intro n
  induction n with
  | zero => intros; exact absurd (by assumption) (by simp [fX12_round.eq_1])
  | succ n ih =>
    intro pc r0 x1 x2 x3 x4 x5 x6 q0 s0 q1 M ρ hI h_r0 h_q0 h_q1
    rw [fX12_round.eq_2]
    repeat' (with_reducible (first | exact f_none | refine f_ite (fun hc => ?_) (fun hc => ?_) | refine f_letM (Iv_u (by assumption) ?_) (fun M' hM' => ?_) | refine f_letI (fun v => ?_) | refine f_cs (fun x => ?_) (fun E => ?_) | refine f_letM (Iv_cp (by assumption) ?_) (fun M' hM' => ?_) | refine f_letM (by assumption) (fun M' hM' => ?_) | refine ih _ _ _ _ _ _ _ _ _ _ _ _ _ (by assumption) ?_ ?_ ?_ | refine ih _ _ _ _ _ _ _ _ _ _ _ _ _ ?_ ?_ ?_ ?_ | refine f_bind (ih _ _ _ _ _ _ _ _ _ _ _ _ _ (by assumption) ?_ ?_ ?_) (fun y hy => ?_) | refine f_bind (hd_gX12_fails h00 (by assumption) ?_) (fun y hy => ?_) | refine f_bind (hd_gX12_isLive h00 (by assumption) ?_) (fun y hy => ?_) | refine f_bind (hd_gX12_takeTurn h00 (by assumption) ?_) (fun y hy => ?_)  | refine f_bindF (by assumption) ?_ (fun j hj => ?_) | refine f_bindZ (by assumption) (fun j hj hz => ?_) | refine f_some ?_ | assumption | exact okl (by assumption) | exact okw (by assumption) (by assumption) (by assumption) (by decide) | exact h00 | refine Iv_u (by assumption) ?_ | refine Iv_cp (by assumption) ?_ | refine Iv_r ?_ ?_ ?_ | refine Iv_new (by assumption) (by assumption) (by assumption) | refine Iv_th (by assumption) | refine Iv_u ?_ ?_ | refine Iv_cp ?_ ?_ | apply And.intro))
set_option maxRecDepth 100000 in
set_option maxHeartbeats 4000000 in
theorem hd_gX12_round (h00 : okr W ρ0 0) {n : Nat} {r0 : Nat} {x1 : Int32} {M : ao_M} {ρ : ao_H} (hI : Iv W M0 ρ0 M ρ) (h_r0 : okr W ρ0 r0) : ∀ z, gX12_round n r0 x1 M ρ = some z → Iv W M0 ρ0 z.2.1 z.2.2 := by
  unfold gX12_round
  exact hd_fX12_round h00 _ _ _ _ _ _ _ _ _ _ _ _ _ _ hI (by first | assumption | exact h00 | exact fun h => absurd h (by decide)) (by first | assumption | exact h00 | exact fun h => absurd h (by decide)) (by first | assumption | exact h00 | exact fun h => absurd h (by decide))
set_option maxRecDepth 100000 in
set_option maxHeartbeats 4000000 in
theorem hd_fX12_has (h00 : okr W ρ0 0) : ∀ (n : Nat) (pc : Nat) (r0 : Nat) (x1 : Int32) (s0 : Int32) (q1 : Nat) (M : ao_M) (ρ : ao_H), Iv W M0 ρ0 M ρ → okr W ρ0 r0 → okr W ρ0 q1 → ∀ z, fX12_has n pc r0 x1 s0 q1 M ρ = some z → Iv W M0 ρ0 z.2 ρ := by
  intro n
  induction n with
  | zero => intros; exact absurd (by assumption) (by simp [fX12_has.eq_1])
  | succ n ih =>
    intro pc r0 x1 s0 q1 M ρ hI h_r0 h_q1
    rw [fX12_has.eq_2]
    repeat' (with_reducible (first | exact f_none | refine f_ite (fun hc => ?_) (fun hc => ?_) | refine f_letM (Iv_u (by assumption) ?_) (fun M' hM' => ?_) | refine f_letI (fun v => ?_) | refine f_cs (fun x => ?_) (fun E => ?_) | refine f_letM (Iv_cp (by assumption) ?_) (fun M' hM' => ?_) | refine f_letM (by assumption) (fun M' hM' => ?_) | refine ih _ _ _ _ _ _ _ (by assumption) ?_ ?_ | refine ih _ _ _ _ _ _ _ ?_ ?_ ?_ | refine f_bind (ih _ _ _ _ _ _ _ (by assumption) ?_ ?_) (fun y hy => ?_) | refine f_bind (hd_gX12_isPlace h00 (by assumption)) (fun y hy => ?_) | refine f_bind (hd_gX12_fails h00 (by assumption) ?_) (fun y hy => ?_)  | refine f_bindF (by assumption) ?_ (fun j hj => ?_) | refine f_bindZ (by assumption) (fun j hj hz => ?_) | refine f_some ?_ | assumption | exact okl (by assumption) | exact okw (by assumption) (by assumption) (by assumption) (by decide) | exact h00 | refine Iv_u (by assumption) ?_ | refine Iv_cp (by assumption) ?_ | refine Iv_r ?_ ?_ ?_ | refine Iv_new (by assumption) (by assumption) (by assumption) | refine Iv_th (by assumption) | refine Iv_u ?_ ?_ | refine Iv_cp ?_ ?_ | apply And.intro))
set_option maxRecDepth 100000 in
set_option maxHeartbeats 4000000 in
theorem hd_gX12_has (h00 : okr W ρ0 0) {n : Nat} {r0 : Nat} {x1 : Int32} {M : ao_M} {ρ : ao_H} (hI : Iv W M0 ρ0 M ρ) (h_r0 : okr W ρ0 r0) : ∀ z, gX12_has n r0 x1 M ρ = some z → Iv W M0 ρ0 z.2 ρ := by
  unfold gX12_has
  exact hd_fX12_has h00 _ _ _ _ _ _ _ _ hI (by first | assumption | exact h00 | exact fun h => absurd h (by decide)) (by first | assumption | exact h00 | exact fun h => absurd h (by decide))
set_option maxRecDepth 100000 in
set_option maxHeartbeats 4000000 in
theorem hd_fX12_had (h00 : okr W ρ0 0) : ∀ (n : Nat) (pc : Nat) (r0 : Nat) (x1 : Int32) (x2 : Int32) (q0 : Nat) (s0 : Int32) (q1 : Nat) (M : ao_M) (ρ : ao_H), Iv W M0 ρ0 M ρ → okr W ρ0 r0 → okr W ρ0 q0 → okr W ρ0 q1 → ∀ z, fX12_had n pc r0 x1 x2 q0 s0 q1 M ρ = some z → Iv W M0 ρ0 z.2 ρ := by
  intro n
  induction n with
  | zero => intros; exact absurd (by assumption) (by simp [fX12_had.eq_1])
  | succ n ih =>
    intro pc r0 x1 x2 q0 s0 q1 M ρ hI h_r0 h_q0 h_q1
    rw [fX12_had.eq_2]
    repeat' (with_reducible (first | exact f_none | refine f_ite (fun hc => ?_) (fun hc => ?_) | refine f_letM (Iv_u (by assumption) ?_) (fun M' hM' => ?_) | refine f_letI (fun v => ?_) | refine f_cs (fun x => ?_) (fun E => ?_) | refine f_letM (Iv_cp (by assumption) ?_) (fun M' hM' => ?_) | refine f_letM (by assumption) (fun M' hM' => ?_) | refine ih _ _ _ _ _ _ _ _ _ (by assumption) ?_ ?_ ?_ | refine ih _ _ _ _ _ _ _ _ _ ?_ ?_ ?_ ?_ | refine f_bind (ih _ _ _ _ _ _ _ _ _ (by assumption) ?_ ?_ ?_) (fun y hy => ?_) | refine f_bind (hd_gX12_isPlace h00 (by assumption)) (fun y hy => ?_) | refine f_bind (hd_gX12_fails h00 (by assumption) ?_) (fun y hy => ?_) | refine f_bind (hd_gX12_past h00 (by assumption) ?_) (fun y hy => ?_)  | refine f_bindF (by assumption) ?_ (fun j hj => ?_) | refine f_bindZ (by assumption) (fun j hj hz => ?_) | refine f_some ?_ | assumption | exact okl (by assumption) | exact okw (by assumption) (by assumption) (by assumption) (by decide) | exact h00 | refine Iv_u (by assumption) ?_ | refine Iv_cp (by assumption) ?_ | refine Iv_r ?_ ?_ ?_ | refine Iv_new (by assumption) (by assumption) (by assumption) | refine Iv_th (by assumption) | refine Iv_u ?_ ?_ | refine Iv_cp ?_ ?_ | apply And.intro))
set_option maxRecDepth 100000 in
set_option maxHeartbeats 4000000 in
theorem hd_gX12_had (h00 : okr W ρ0 0) {n : Nat} {r0 : Nat} {x1 : Int32} {x2 : Int32} {M : ao_M} {ρ : ao_H} (hI : Iv W M0 ρ0 M ρ) (h_r0 : okr W ρ0 r0) : ∀ z, gX12_had n r0 x1 x2 M ρ = some z → Iv W M0 ρ0 z.2 ρ := by
  unfold gX12_had
  exact hd_fX12_had h00 _ _ _ _ _ _ _ _ _ _ hI (by first | assumption | exact h00 | exact fun h => absurd h (by decide)) (by first | assumption | exact h00 | exact fun h => absurd h (by decide)) (by first | assumption | exact h00 | exact fun h => absurd h (by decide))
set_option maxRecDepth 100000 in
set_option maxHeartbeats 4000000 in
theorem hd_fX12_register (h00 : okr W ρ0 0) : ∀ (n : Nat) (pc : Nat) (r0 : Nat) (x1 : Int32) (x2 : Int32) (q0 : Nat) (s0 : Int32) (q1 : Nat) (M : ao_M) (ρ : ao_H), Iv W M0 ρ0 M ρ → okr W ρ0 r0 → okr W ρ0 q0 → okr W ρ0 q1 → ∀ z, fX12_register n pc r0 x1 x2 q0 s0 q1 M ρ = some z → Iv W M0 ρ0 z.2 ρ := by
  intro n
  induction n with
  | zero => intros; exact absurd (by assumption) (by simp [fX12_register.eq_1])
  | succ n ih =>
    intro pc r0 x1 x2 q0 s0 q1 M ρ hI h_r0 h_q0 h_q1
    rw [fX12_register.eq_2]
    repeat' (with_reducible (first | exact f_none | refine f_ite (fun hc => ?_) (fun hc => ?_) | refine f_letM (Iv_u (by assumption) ?_) (fun M' hM' => ?_) | refine f_letI (fun v => ?_) | refine f_cs (fun x => ?_) (fun E => ?_) | refine f_letM (Iv_cp (by assumption) ?_) (fun M' hM' => ?_) | refine f_letM (by assumption) (fun M' hM' => ?_) | refine ih _ _ _ _ _ _ _ _ _ (by assumption) ?_ ?_ ?_ | refine ih _ _ _ _ _ _ _ _ _ ?_ ?_ ?_ ?_ | refine f_bind (ih _ _ _ _ _ _ _ _ _ (by assumption) ?_ ?_ ?_) (fun y hy => ?_) | refine f_bind (hd_gX12_isThread h00 (by assumption)) (fun y hy => ?_) | refine f_bind (hd_gX12_isPlace h00 (by assumption)) (fun y hy => ?_) | refine f_bind (hd_gX12_fails h00 (by assumption) ?_) (fun y hy => ?_)  | refine f_bindF (by assumption) ?_ (fun j hj => ?_) | refine f_bindZ (by assumption) (fun j hj hz => ?_) | refine f_some ?_ | assumption | exact okl (by assumption) | exact okw (by assumption) (by assumption) (by assumption) (by decide) | exact h00 | refine Iv_u (by assumption) ?_ | refine Iv_cp (by assumption) ?_ | refine Iv_r ?_ ?_ ?_ | refine Iv_new (by assumption) (by assumption) (by assumption) | refine Iv_th (by assumption) | refine Iv_u ?_ ?_ | refine Iv_cp ?_ ?_ | apply And.intro))
set_option maxRecDepth 100000 in
set_option maxHeartbeats 4000000 in
theorem hd_gX12_register (h00 : okr W ρ0 0) {n : Nat} {r0 : Nat} {x1 : Int32} {x2 : Int32} {M : ao_M} {ρ : ao_H} (hI : Iv W M0 ρ0 M ρ) (h_r0 : okr W ρ0 r0) : ∀ z, gX12_register n r0 x1 x2 M ρ = some z → Iv W M0 ρ0 z.2 ρ := by
  unfold gX12_register
  exact hd_fX12_register h00 _ _ _ _ _ _ _ _ _ _ hI (by first | assumption | exact h00 | exact fun h => absurd h (by decide)) (by first | assumption | exact h00 | exact fun h => absurd h (by decide)) (by first | assumption | exact h00 | exact fun h => absurd h (by decide))
set_option maxRecDepth 100000 in
set_option maxHeartbeats 4000000 in
theorem hd_fX12_said (h00 : okr W ρ0 0) : ∀ (n : Nat) (pc : Nat) (r0 : Nat) (x1 : Int32) (x2 : Int32) (q0 : Nat) (s0 : Int32) (q1 : Nat) (M : ao_M) (ρ : ao_H), Iv W M0 ρ0 M ρ → okr W ρ0 r0 → okr W ρ0 q0 → okr W ρ0 q1 → ∀ z, fX12_said n pc r0 x1 x2 q0 s0 q1 M ρ = some z → Iv W M0 ρ0 z.2 ρ := by
  intro n
  induction n with
  | zero => intros; exact absurd (by assumption) (by simp [fX12_said.eq_1])
  | succ n ih =>
    intro pc r0 x1 x2 q0 s0 q1 M ρ hI h_r0 h_q0 h_q1
    rw [fX12_said.eq_2]
    repeat' (with_reducible (first | exact f_none | refine f_ite (fun hc => ?_) (fun hc => ?_) | refine f_letM (Iv_u (by assumption) ?_) (fun M' hM' => ?_) | refine f_letI (fun v => ?_) | refine f_cs (fun x => ?_) (fun E => ?_) | refine f_letM (Iv_cp (by assumption) ?_) (fun M' hM' => ?_) | refine f_letM (by assumption) (fun M' hM' => ?_) | refine ih _ _ _ _ _ _ _ _ _ (by assumption) ?_ ?_ ?_ | refine ih _ _ _ _ _ _ _ _ _ ?_ ?_ ?_ ?_ | refine f_bind (ih _ _ _ _ _ _ _ _ _ (by assumption) ?_ ?_ ?_) (fun y hy => ?_) | refine f_bind (hd_gX12_fails h00 (by assumption) ?_) (fun y hy => ?_)  | refine f_bindF (by assumption) ?_ (fun j hj => ?_) | refine f_bindZ (by assumption) (fun j hj hz => ?_) | refine f_some ?_ | assumption | exact okl (by assumption) | exact okw (by assumption) (by assumption) (by assumption) (by decide) | exact h00 | refine Iv_u (by assumption) ?_ | refine Iv_cp (by assumption) ?_ | refine Iv_r ?_ ?_ ?_ | refine Iv_new (by assumption) (by assumption) (by assumption) | refine Iv_th (by assumption) | refine Iv_u ?_ ?_ | refine Iv_cp ?_ ?_ | apply And.intro))
set_option maxRecDepth 100000 in
set_option maxHeartbeats 4000000 in
theorem hd_gX12_said (h00 : okr W ρ0 0) {n : Nat} {r0 : Nat} {x1 : Int32} {x2 : Int32} {M : ao_M} {ρ : ao_H} (hI : Iv W M0 ρ0 M ρ) (h_r0 : okr W ρ0 r0) : ∀ z, gX12_said n r0 x1 x2 M ρ = some z → Iv W M0 ρ0 z.2 ρ := by
  unfold gX12_said
  exact hd_fX12_said h00 _ _ _ _ _ _ _ _ _ _ hI (by first | assumption | exact h00 | exact fun h => absurd h (by decide)) (by first | assumption | exact h00 | exact fun h => absurd h (by decide)) (by first | assumption | exact h00 | exact fun h => absurd h (by decide))
set_option maxRecDepth 100000 in
set_option maxHeartbeats 4000000 in
theorem hd_fX12_readsOf (h00 : okr W ρ0 0) : ∀ (n : Nat) (pc : Nat) (r0 : Nat) (x1 : Int32) (x2 : Int32) (x3 : Int32) (x4 : Int32) (x5 : Int32) (s0 : Int32) (M : ao_M) (ρ : ao_H), Iv W M0 ρ0 M ρ → okr W ρ0 r0 → ∀ z, fX12_readsOf n pc r0 x1 x2 x3 x4 x5 s0 M ρ = some z → Iv W M0 ρ0 z.2 ρ := by
  intro n
  induction n with
  | zero => intros; exact absurd (by assumption) (by simp [fX12_readsOf.eq_1])
  | succ n ih =>
    intro pc r0 x1 x2 x3 x4 x5 s0 M ρ hI h_r0
    rw [fX12_readsOf.eq_2]
    repeat' (with_reducible (first | exact f_none | refine f_ite (fun hc => ?_) (fun hc => ?_) | refine f_letM (Iv_u (by assumption) ?_) (fun M' hM' => ?_) | refine f_letI (fun v => ?_) | refine f_cs (fun x => ?_) (fun E => ?_) | refine f_letM (Iv_cp (by assumption) ?_) (fun M' hM' => ?_) | refine f_letM (by assumption) (fun M' hM' => ?_) | refine ih _ _ _ _ _ _ _ _ _ _ (by assumption) ?_ | refine ih _ _ _ _ _ _ _ _ _ _ ?_ ?_ | refine f_bind (ih _ _ _ _ _ _ _ _ _ _ (by assumption) ?_) (fun y hy => ?_) | refine f_bind (hd_gX12_cell h00 (by assumption) ?_) (fun y hy => ?_)  | refine f_bindF (by assumption) ?_ (fun j hj => ?_) | refine f_bindZ (by assumption) (fun j hj hz => ?_) | refine f_some ?_ | assumption | exact okl (by assumption) | exact okw (by assumption) (by assumption) (by assumption) (by decide) | exact h00 | refine Iv_u (by assumption) ?_ | refine Iv_cp (by assumption) ?_ | refine Iv_r ?_ ?_ ?_ | refine Iv_new (by assumption) (by assumption) (by assumption) | refine Iv_th (by assumption) | refine Iv_u ?_ ?_ | refine Iv_cp ?_ ?_ | apply And.intro))
set_option maxRecDepth 100000 in
set_option maxHeartbeats 4000000 in
theorem hd_gX12_readsOf (h00 : okr W ρ0 0) {n : Nat} {r0 : Nat} {x1 : Int32} {M : ao_M} {ρ : ao_H} (hI : Iv W M0 ρ0 M ρ) (h_r0 : okr W ρ0 r0) : ∀ z, gX12_readsOf n r0 x1 M ρ = some z → Iv W M0 ρ0 z.2 ρ := by
  unfold gX12_readsOf
  exact hd_fX12_readsOf h00 _ _ _ _ _ _ _ _ _ _ _ hI (by first | assumption | exact h00 | exact fun h => absurd h (by decide))
set_option maxRecDepth 100000 in
set_option maxHeartbeats 4000000 in
theorem hd_fX12_writesOf (h00 : okr W ρ0 0) : ∀ (n : Nat) (pc : Nat) (r0 : Nat) (x1 : Int32) (x2 : Int32) (x3 : Int32) (M : ao_M) (ρ : ao_H), Iv W M0 ρ0 M ρ → okr W ρ0 r0 → ∀ z, fX12_writesOf n pc r0 x1 x2 x3 M ρ = some z → Iv W M0 ρ0 z.2 ρ := by
  intro n
  induction n with
  | zero => intros; exact absurd (by assumption) (by simp [fX12_writesOf.eq_1])
  | succ n ih =>
    intro pc r0 x1 x2 x3 M ρ hI h_r0
    rw [fX12_writesOf.eq_2]
    repeat' (with_reducible (first | exact f_none | refine f_ite (fun hc => ?_) (fun hc => ?_) | refine f_letM (Iv_u (by assumption) ?_) (fun M' hM' => ?_) | refine f_letI (fun v => ?_) | refine f_cs (fun x => ?_) (fun E => ?_) | refine f_letM (Iv_cp (by assumption) ?_) (fun M' hM' => ?_) | refine f_letM (by assumption) (fun M' hM' => ?_) | refine ih _ _ _ _ _ _ _ (by assumption) ?_ | refine ih _ _ _ _ _ _ _ ?_ ?_ | refine f_bind (ih _ _ _ _ _ _ _ (by assumption) ?_) (fun y hy => ?_) | refine f_bind (hd_gX12_writtenLevel h00 (by assumption) ?_) (fun y hy => ?_)  | refine f_bindF (by assumption) ?_ (fun j hj => ?_) | refine f_bindZ (by assumption) (fun j hj hz => ?_) | refine f_some ?_ | assumption | exact okl (by assumption) | exact okw (by assumption) (by assumption) (by assumption) (by decide) | exact h00 | refine Iv_u (by assumption) ?_ | refine Iv_cp (by assumption) ?_ | refine Iv_r ?_ ?_ ?_ | refine Iv_new (by assumption) (by assumption) (by assumption) | refine Iv_th (by assumption) | refine Iv_u ?_ ?_ | refine Iv_cp ?_ ?_ | apply And.intro))
set_option maxRecDepth 100000 in
set_option maxHeartbeats 4000000 in
theorem hd_gX12_writesOf (h00 : okr W ρ0 0) {n : Nat} {r0 : Nat} {x1 : Int32} {M : ao_M} {ρ : ao_H} (hI : Iv W M0 ρ0 M ρ) (h_r0 : okr W ρ0 r0) : ∀ z, gX12_writesOf n r0 x1 M ρ = some z → Iv W M0 ρ0 z.2 ρ := by
  unfold gX12_writesOf
  exact hd_fX12_writesOf h00 _ _ _ _ _ _ _ _ hI (by first | assumption | exact h00 | exact fun h => absurd h (by decide))
set_option maxRecDepth 100000 in
set_option maxHeartbeats 4000000 in
theorem hd_fX12_look (h00 : okr W ρ0 0) : ∀ (n : Nat) (pc : Nat) (r0 : Nat) (x1 : Int32) (x2 : Int32) (q0 : Nat) (s0 : Int32) (q1 : Nat) (M : ao_M) (ρ : ao_H), Iv W M0 ρ0 M ρ → okr W ρ0 r0 → okr W ρ0 q0 → okr W ρ0 q1 → ∀ z, fX12_look n pc r0 x1 x2 q0 s0 q1 M ρ = some z → Iv W M0 ρ0 z.2 ρ := by
  intro n
  induction n with
  | zero => intros; exact absurd (by assumption) (by simp [fX12_look.eq_1])
  | succ n ih =>
    intro pc r0 x1 x2 q0 s0 q1 M ρ hI h_r0 h_q0 h_q1
    rw [fX12_look.eq_2]
    repeat' (with_reducible (first | exact f_none | refine f_ite (fun hc => ?_) (fun hc => ?_) | refine f_letM (Iv_u (by assumption) ?_) (fun M' hM' => ?_) | refine f_letI (fun v => ?_) | refine f_cs (fun x => ?_) (fun E => ?_) | refine f_letM (Iv_cp (by assumption) ?_) (fun M' hM' => ?_) | refine f_letM (by assumption) (fun M' hM' => ?_) | refine ih _ _ _ _ _ _ _ _ _ (by assumption) ?_ ?_ ?_ | refine ih _ _ _ _ _ _ _ _ _ ?_ ?_ ?_ ?_ | refine f_bind (ih _ _ _ _ _ _ _ _ _ (by assumption) ?_ ?_ ?_) (fun y hy => ?_) | refine f_bind (hd_gX12_isThread h00 (by assumption)) (fun y hy => ?_) | refine f_bind (hd_gX12_fails h00 (by assumption) ?_) (fun y hy => ?_) | refine f_bind (hd_gX12_readsOf h00 (by assumption) ?_) (fun y hy => ?_) | refine f_bind (hd_gX12_writesOf h00 (by assumption) ?_) (fun y hy => ?_)  | refine f_bindF (by assumption) ?_ (fun j hj => ?_) | refine f_bindZ (by assumption) (fun j hj hz => ?_) | refine f_some ?_ | assumption | exact okl (by assumption) | exact okw (by assumption) (by assumption) (by assumption) (by decide) | exact h00 | refine Iv_u (by assumption) ?_ | refine Iv_cp (by assumption) ?_ | refine Iv_r ?_ ?_ ?_ | refine Iv_new (by assumption) (by assumption) (by assumption) | refine Iv_th (by assumption) | refine Iv_u ?_ ?_ | refine Iv_cp ?_ ?_ | apply And.intro))
set_option maxRecDepth 100000 in
set_option maxHeartbeats 4000000 in
theorem hd_gX12_look (h00 : okr W ρ0 0) {n : Nat} {r0 : Nat} {x1 : Int32} {x2 : Int32} {M : ao_M} {ρ : ao_H} (hI : Iv W M0 ρ0 M ρ) (h_r0 : okr W ρ0 r0) : ∀ z, gX12_look n r0 x1 x2 M ρ = some z → Iv W M0 ρ0 z.2 ρ := by
  unfold gX12_look
  exact hd_fX12_look h00 _ _ _ _ _ _ _ _ _ _ hI (by first | assumption | exact h00 | exact fun h => absurd h (by decide)) (by first | assumption | exact h00 | exact fun h => absurd h (by decide)) (by first | assumption | exact h00 | exact fun h => absurd h (by decide))
set_option maxRecDepth 100000 in
set_option maxHeartbeats 4000000 in
theorem hd_fX12_isAsIs (h00 : okr W ρ0 0) : ∀ (n : Nat) (pc : Nat) (r0 : Nat) (x1 : Int32) (x2 : Int32) (M : ao_M) (ρ : ao_H), Iv W M0 ρ0 M ρ → okr W ρ0 r0 → ∀ z, fX12_isAsIs n pc r0 x1 x2 M ρ = some z → Iv W M0 ρ0 z.2 ρ := by
  intro n
  induction n with
  | zero => intros; exact absurd (by assumption) (by simp [fX12_isAsIs.eq_1])
  | succ n ih =>
    intro pc r0 x1 x2 M ρ hI h_r0
    rw [fX12_isAsIs.eq_2]
    repeat' (with_reducible (first | exact f_none | refine f_ite (fun hc => ?_) (fun hc => ?_) | refine f_letM (Iv_u (by assumption) ?_) (fun M' hM' => ?_) | refine f_letI (fun v => ?_) | refine f_cs (fun x => ?_) (fun E => ?_) | refine f_letM (Iv_cp (by assumption) ?_) (fun M' hM' => ?_) | refine f_letM (by assumption) (fun M' hM' => ?_) | refine ih _ _ _ _ _ _ (by assumption) ?_ | refine ih _ _ _ _ _ _ ?_ ?_ | refine f_bind (ih _ _ _ _ _ _ (by assumption) ?_) (fun y hy => ?_)  | refine f_bindF (by assumption) ?_ (fun j hj => ?_) | refine f_bindZ (by assumption) (fun j hj hz => ?_) | refine f_some ?_ | assumption | exact okl (by assumption) | exact okw (by assumption) (by assumption) (by assumption) (by decide) | exact h00 | refine Iv_u (by assumption) ?_ | refine Iv_cp (by assumption) ?_ | refine Iv_r ?_ ?_ ?_ | refine Iv_new (by assumption) (by assumption) (by assumption) | refine Iv_th (by assumption) | refine Iv_u ?_ ?_ | refine Iv_cp ?_ ?_ | apply And.intro))
set_option maxRecDepth 100000 in
set_option maxHeartbeats 4000000 in
theorem hd_gX12_isAsIs (h00 : okr W ρ0 0) {n : Nat} {r0 : Nat} {x1 : Int32} {M : ao_M} {ρ : ao_H} (hI : Iv W M0 ρ0 M ρ) (h_r0 : okr W ρ0 r0) : ∀ z, gX12_isAsIs n r0 x1 M ρ = some z → Iv W M0 ρ0 z.2 ρ := by
  unfold gX12_isAsIs
  exact hd_fX12_isAsIs h00 _ _ _ _ _ _ _ hI (by first | assumption | exact h00 | exact fun h => absurd h (by decide))
set_option maxRecDepth 100000 in
set_option maxHeartbeats 4000000 in
theorem hd_fX12_mayCome (h00 : okr W ρ0 0) : ∀ (n : Nat) (pc : Nat) (r0 : Nat) (x1 : Int32) (x2 : Int32) (x3 : Int32) (M : ao_M) (ρ : ao_H), Iv W M0 ρ0 M ρ → okr W ρ0 r0 → ∀ z, fX12_mayCome n pc r0 x1 x2 x3 M ρ = some z → Iv W M0 ρ0 z.2 ρ := by
  intro n
  induction n with
  | zero => intros; exact absurd (by assumption) (by simp [fX12_mayCome.eq_1])
  | succ n ih =>
    intro pc r0 x1 x2 x3 M ρ hI h_r0
    rw [fX12_mayCome.eq_2]
    repeat' (with_reducible (first | exact f_none | refine f_ite (fun hc => ?_) (fun hc => ?_) | refine f_letM (Iv_u (by assumption) ?_) (fun M' hM' => ?_) | refine f_letI (fun v => ?_) | refine f_cs (fun x => ?_) (fun E => ?_) | refine f_letM (Iv_cp (by assumption) ?_) (fun M' hM' => ?_) | refine f_letM (by assumption) (fun M' hM' => ?_) | refine ih _ _ _ _ _ _ _ (by assumption) ?_ | refine ih _ _ _ _ _ _ _ ?_ ?_ | refine f_bind (ih _ _ _ _ _ _ _ (by assumption) ?_) (fun y hy => ?_)  | refine f_bindF (by assumption) ?_ (fun j hj => ?_) | refine f_bindZ (by assumption) (fun j hj hz => ?_) | refine f_some ?_ | assumption | exact okl (by assumption) | exact okw (by assumption) (by assumption) (by assumption) (by decide) | exact h00 | refine Iv_u (by assumption) ?_ | refine Iv_cp (by assumption) ?_ | refine Iv_r ?_ ?_ ?_ | refine Iv_new (by assumption) (by assumption) (by assumption) | refine Iv_th (by assumption) | refine Iv_u ?_ ?_ | refine Iv_cp ?_ ?_ | apply And.intro))
set_option maxRecDepth 100000 in
set_option maxHeartbeats 4000000 in
theorem hd_gX12_mayCome (h00 : okr W ρ0 0) {n : Nat} {r0 : Nat} {x1 : Int32} {x2 : Int32} {M : ao_M} {ρ : ao_H} (hI : Iv W M0 ρ0 M ρ) (h_r0 : okr W ρ0 r0) : ∀ z, gX12_mayCome n r0 x1 x2 M ρ = some z → Iv W M0 ρ0 z.2 ρ := by
  unfold gX12_mayCome
  exact hd_fX12_mayCome h00 _ _ _ _ _ _ _ _ hI (by first | assumption | exact h00 | exact fun h => absurd h (by decide))
set_option maxRecDepth 100000 in
set_option maxHeartbeats 4000000 in
theorem hd_fX12_judge (h00 : okr W ρ0 0) : ∀ (n : Nat) (pc : Nat) (r0 : Nat) (x1 : Int32) (x2 : Int32) (x3 : Int32) (x4 : Int32) (s0 : Int32) (s1 : Int32) (q2 : Nat) (M : ao_M) (ρ : ao_H), Iv W M0 ρ0 M ρ → okr W ρ0 r0 → okr W ρ0 q2 → ∀ z, fX12_judge n pc r0 x1 x2 x3 x4 s0 s1 q2 M ρ = some z → Iv W M0 ρ0 z.2 ρ := by
  intro n
  induction n with
  | zero => intros; exact absurd (by assumption) (by simp [fX12_judge.eq_1])
  | succ n ih =>
    intro pc r0 x1 x2 x3 x4 s0 s1 q2 M ρ hI h_r0 h_q2
    rw [fX12_judge.eq_2]
    repeat' (with_reducible (first | exact f_none | refine f_ite (fun hc => ?_) (fun hc => ?_) | refine f_letM (Iv_u (by assumption) ?_) (fun M' hM' => ?_) | refine f_letI (fun v => ?_) | refine f_cs (fun x => ?_) (fun E => ?_) | refine f_letM (Iv_cp (by assumption) ?_) (fun M' hM' => ?_) | refine f_letM (by assumption) (fun M' hM' => ?_) | refine ih _ _ _ _ _ _ _ _ _ _ _ (by assumption) ?_ ?_ | refine ih _ _ _ _ _ _ _ _ _ _ _ ?_ ?_ ?_ | refine f_bind (ih _ _ _ _ _ _ _ _ _ _ _ (by assumption) ?_ ?_) (fun y hy => ?_) | refine f_bind (hd_gX12_isAsIs h00 (by assumption) ?_) (fun y hy => ?_) | refine f_bind (hd_gX12_mayCome h00 (by assumption) ?_) (fun y hy => ?_)  | refine f_bindF (by assumption) ?_ (fun j hj => ?_) | refine f_bindZ (by assumption) (fun j hj hz => ?_) | refine f_some ?_ | assumption | exact okl (by assumption) | exact okw (by assumption) (by assumption) (by assumption) (by decide) | exact h00 | refine Iv_u (by assumption) ?_ | refine Iv_cp (by assumption) ?_ | refine Iv_r ?_ ?_ ?_ | refine Iv_new (by assumption) (by assumption) (by assumption) | refine Iv_th (by assumption) | refine Iv_u ?_ ?_ | refine Iv_cp ?_ ?_ | apply And.intro))
set_option maxRecDepth 100000 in
set_option maxHeartbeats 4000000 in
theorem hd_gX12_judge (h00 : okr W ρ0 0) {n : Nat} {r0 : Nat} {M : ao_M} {ρ : ao_H} (hI : Iv W M0 ρ0 M ρ) (h_r0 : okr W ρ0 r0) : ∀ z, gX12_judge n r0 M ρ = some z → Iv W M0 ρ0 z.2 ρ := by
  unfold gX12_judge
  exact hd_fX12_judge h00 _ _ _ _ _ _ _ _ _ _ _ _ hI (by first | assumption | exact h00 | exact fun h => absurd h (by decide)) (by first | assumption | exact h00 | exact fun h => absurd h (by decide))
set_option maxRecDepth 100000 in
set_option maxHeartbeats 4000000 in
theorem hd_fX12_order (h00 : okr W ρ0 0) : ∀ (n : Nat) (pc : Nat) (r0 : Nat) (x1 : Int32) (q0 : Nat) (s0 : Int32) (q1 : Nat) (M : ao_M) (ρ : ao_H), Iv W M0 ρ0 M ρ → okr W ρ0 r0 → okr W ρ0 q0 → okr W ρ0 q1 → ∀ z, fX12_order n pc r0 x1 q0 s0 q1 M ρ = some z → Iv W M0 ρ0 z.2 ρ := by
  intro n
  induction n with
  | zero => intros; exact absurd (by assumption) (by simp [fX12_order.eq_1])
  | succ n ih =>
    intro pc r0 x1 q0 s0 q1 M ρ hI h_r0 h_q0 h_q1
    rw [fX12_order.eq_2]
    repeat' (with_reducible (first | exact f_none | refine f_ite (fun hc => ?_) (fun hc => ?_) | refine f_letM (Iv_u (by assumption) ?_) (fun M' hM' => ?_) | refine f_letI (fun v => ?_) | refine f_cs (fun x => ?_) (fun E => ?_) | refine f_letM (Iv_cp (by assumption) ?_) (fun M' hM' => ?_) | refine f_letM (by assumption) (fun M' hM' => ?_) | refine ih _ _ _ _ _ _ _ _ (by assumption) ?_ ?_ ?_ | refine ih _ _ _ _ _ _ _ _ ?_ ?_ ?_ ?_ | refine f_bind (ih _ _ _ _ _ _ _ _ (by assumption) ?_ ?_ ?_) (fun y hy => ?_) | refine f_bind (hd_gX12_fails h00 (by assumption) ?_) (fun y hy => ?_)  | refine f_bindF (by assumption) ?_ (fun j hj => ?_) | refine f_bindZ (by assumption) (fun j hj hz => ?_) | refine f_some ?_ | assumption | exact okl (by assumption) | exact okw (by assumption) (by assumption) (by assumption) (by decide) | exact h00 | refine Iv_u (by assumption) ?_ | refine Iv_cp (by assumption) ?_ | refine Iv_r ?_ ?_ ?_ | refine Iv_new (by assumption) (by assumption) (by assumption) | refine Iv_th (by assumption) | refine Iv_u ?_ ?_ | refine Iv_cp ?_ ?_ | apply And.intro))
set_option maxRecDepth 100000 in
set_option maxHeartbeats 4000000 in
theorem hd_gX12_order (h00 : okr W ρ0 0) {n : Nat} {r0 : Nat} {x1 : Int32} {M : ao_M} {ρ : ao_H} (hI : Iv W M0 ρ0 M ρ) (h_r0 : okr W ρ0 r0) : ∀ z, gX12_order n r0 x1 M ρ = some z → Iv W M0 ρ0 z.2 ρ := by
  unfold gX12_order
  exact hd_fX12_order h00 _ _ _ _ _ _ _ _ _ hI (by first | assumption | exact h00 | exact fun h => absurd h (by decide)) (by first | assumption | exact h00 | exact fun h => absurd h (by decide)) (by first | assumption | exact h00 | exact fun h => absurd h (by decide))
set_option maxRecDepth 100000 in
set_option maxHeartbeats 4000000 in
theorem hd_fX12_record (h00 : okr W ρ0 0) : ∀ (n : Nat) (pc : Nat) (r0 : Nat) (x1 : Int32) (x2 : Int32) (x3 : Int32) (x4 : Int32) (q0 : Nat) (s0 : Int32) (q1 : Nat) (M : ao_M) (ρ : ao_H), Iv W M0 ρ0 M ρ → okr W ρ0 r0 → okr W ρ0 q0 → okr W ρ0 q1 → ∀ z, fX12_record n pc r0 x1 x2 x3 x4 q0 s0 q1 M ρ = some z → Iv W M0 ρ0 z.2 ρ := by
  intro n
  induction n with
  | zero => intros; exact absurd (by assumption) (by simp [fX12_record.eq_1])
  | succ n ih =>
    intro pc r0 x1 x2 x3 x4 q0 s0 q1 M ρ hI h_r0 h_q0 h_q1
    rw [fX12_record.eq_2]
    repeat' (with_reducible (first | exact f_none | refine f_ite (fun hc => ?_) (fun hc => ?_) | refine f_letM (Iv_u (by assumption) ?_) (fun M' hM' => ?_) | refine f_letI (fun v => ?_) | refine f_cs (fun x => ?_) (fun E => ?_) | refine f_letM (Iv_cp (by assumption) ?_) (fun M' hM' => ?_) | refine f_letM (by assumption) (fun M' hM' => ?_) | refine ih _ _ _ _ _ _ _ _ _ _ _ (by assumption) ?_ ?_ ?_ | refine ih _ _ _ _ _ _ _ _ _ _ _ ?_ ?_ ?_ ?_ | refine f_bind (ih _ _ _ _ _ _ _ _ _ _ _ (by assumption) ?_ ?_ ?_) (fun y hy => ?_) | refine f_bind (hd_gX12_fails h00 (by assumption) ?_) (fun y hy => ?_)  | refine f_bindF (by assumption) ?_ (fun j hj => ?_) | refine f_bindZ (by assumption) (fun j hj hz => ?_) | refine f_some ?_ | assumption | exact okl (by assumption) | exact okw (by assumption) (by assumption) (by assumption) (by decide) | exact h00 | refine Iv_u (by assumption) ?_ | refine Iv_cp (by assumption) ?_ | refine Iv_r ?_ ?_ ?_ | refine Iv_new (by assumption) (by assumption) (by assumption) | refine Iv_th (by assumption) | refine Iv_u ?_ ?_ | refine Iv_cp ?_ ?_ | apply And.intro))
set_option maxRecDepth 100000 in
set_option maxHeartbeats 4000000 in
theorem hd_gX12_record (h00 : okr W ρ0 0) {n : Nat} {r0 : Nat} {x1 : Int32} {x2 : Int32} {M : ao_M} {ρ : ao_H} (hI : Iv W M0 ρ0 M ρ) (h_r0 : okr W ρ0 r0) : ∀ z, gX12_record n r0 x1 x2 M ρ = some z → Iv W M0 ρ0 z.2 ρ := by
  unfold gX12_record
  exact hd_fX12_record h00 _ _ _ _ _ _ _ _ _ _ _ _ hI (by first | assumption | exact h00 | exact fun h => absurd h (by decide)) (by first | assumption | exact h00 | exact fun h => absurd h (by decide)) (by first | assumption | exact h00 | exact fun h => absurd h (by decide))
set_option maxRecDepth 100000 in
set_option maxHeartbeats 4000000 in
theorem hd_fX12_count (h00 : okr W ρ0 0) : ∀ (n : Nat) (pc : Nat) (r0 : Nat) (x1 : Int32) (x2 : Int32) (x3 : Int32) (q0 : Nat) (s0 : Int32) (q1 : Nat) (s1 : Int32) (M : ao_M) (ρ : ao_H), Iv W M0 ρ0 M ρ → okr W ρ0 r0 → okr W ρ0 q0 → okr W ρ0 q1 → ∀ z, fX12_count n pc r0 x1 x2 x3 q0 s0 q1 s1 M ρ = some z → Iv W M0 ρ0 z.2 ρ := by
  intro n
  induction n with
  | zero => intros; exact absurd (by assumption) (by simp [fX12_count.eq_1])
  | succ n ih =>
    intro pc r0 x1 x2 x3 q0 s0 q1 s1 M ρ hI h_r0 h_q0 h_q1
    rw [fX12_count.eq_2]
    repeat' (with_reducible (first | exact f_none | refine f_ite (fun hc => ?_) (fun hc => ?_) | refine f_letM (Iv_u (by assumption) ?_) (fun M' hM' => ?_) | refine f_letI (fun v => ?_) | refine f_cs (fun x => ?_) (fun E => ?_) | refine f_letM (Iv_cp (by assumption) ?_) (fun M' hM' => ?_) | refine f_letM (by assumption) (fun M' hM' => ?_) | refine ih _ _ _ _ _ _ _ _ _ _ _ (by assumption) ?_ ?_ ?_ | refine ih _ _ _ _ _ _ _ _ _ _ _ ?_ ?_ ?_ ?_ | refine f_bind (ih _ _ _ _ _ _ _ _ _ _ _ (by assumption) ?_ ?_ ?_) (fun y hy => ?_) | refine f_bind (hd_gX12_fails h00 (by assumption) ?_) (fun y hy => ?_)  | refine f_bindF (by assumption) ?_ (fun j hj => ?_) | refine f_bindZ (by assumption) (fun j hj hz => ?_) | refine f_some ?_ | assumption | exact okl (by assumption) | exact okw (by assumption) (by assumption) (by assumption) (by decide) | exact h00 | refine Iv_u (by assumption) ?_ | refine Iv_cp (by assumption) ?_ | refine Iv_r ?_ ?_ ?_ | refine Iv_new (by assumption) (by assumption) (by assumption) | refine Iv_th (by assumption) | refine Iv_u ?_ ?_ | refine Iv_cp ?_ ?_ | apply And.intro))
set_option maxRecDepth 100000 in
set_option maxHeartbeats 4000000 in
theorem hd_gX12_count (h00 : okr W ρ0 0) {n : Nat} {r0 : Nat} {x1 : Int32} {M : ao_M} {ρ : ao_H} (hI : Iv W M0 ρ0 M ρ) (h_r0 : okr W ρ0 r0) : ∀ z, gX12_count n r0 x1 M ρ = some z → Iv W M0 ρ0 z.2 ρ := by
  unfold gX12_count
  exact hd_fX12_count h00 _ _ _ _ _ _ _ _ _ _ _ _ hI (by first | assumption | exact h00 | exact fun h => absurd h (by decide)) (by first | assumption | exact h00 | exact fun h => absurd h (by decide)) (by first | assumption | exact h00 | exact fun h => absurd h (by decide))
set_option maxRecDepth 100000 in
set_option maxHeartbeats 4000000 in
theorem hd_gX12_thrown (h00 : okr W ρ0 0) {r0 : Nat} {M : ao_M} {ρ : ao_H} (hI : Iv W M0 ρ0 M ρ) (h_r0 : okr W ρ0 r0) : ∀ z, gX12_thrown r0 M ρ = some z → Iv W M0 ρ0 z.2 ρ := by
  unfold gX12_thrown
  repeat' (with_reducible (first | exact f_none | refine f_ite (fun hc => ?_) (fun hc => ?_) | refine f_letM (Iv_u (by assumption) ?_) (fun M' hM' => ?_) | refine f_letI (fun v => ?_) | refine f_cs (fun x => ?_) (fun E => ?_) | refine f_letM (Iv_cp (by assumption) ?_) (fun M' hM' => ?_) | refine f_letM (by assumption) (fun M' hM' => ?_)  | refine f_bindF (by assumption) ?_ (fun j hj => ?_) | refine f_bindZ (by assumption) (fun j hj hz => ?_) | refine f_some ?_ | assumption | exact okl (by assumption) | exact okw (by assumption) (by assumption) (by assumption) (by decide) | exact h00 | refine Iv_u (by assumption) ?_ | refine Iv_cp (by assumption) ?_ | refine Iv_r ?_ ?_ ?_ | refine Iv_new (by assumption) (by assumption) (by assumption) | refine Iv_th (by assumption) | refine Iv_u ?_ ?_ | refine Iv_cp ?_ ?_ | apply And.intro))
end Fr
