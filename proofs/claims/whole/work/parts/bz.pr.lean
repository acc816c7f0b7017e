set_option linter.unusedSimpArgs false
set_option linter.unusedVariables false
/-! ===== both sides between calls ===== -/
/-- as the class is when a turn has begun -/
def tk (C : ao_M) : ao_M := ao_u (ao_u C 12 6 (C 12 4)) 12 4 (C 12 4 + 1)
theorem tk_n {C : ao_M} {x i : Nat} (h : ¬ (x = 12 ∧ (i = 4 ∨ i = 6))) : tk C x i = C x i := by
  unfold tk
  rw [u_ne (by omega), u_ne (by omega)]
theorem tk_6 {C : ao_M} : tk C 12 6 = C 12 4 := by
  unfold tk
  rw [u_ne (by omega), u_eq]
theorem tk_4 {C : ao_M} : tk C 12 4 = C 12 4 + 1 := by
  unfold tk
  rw [u_eq]
/-- changes that are no thread's, no place's -/
theorem Full_ext {C D C' D' : ao_M} {ρ σ : ao_H} {kp rc nw nw' bw br : Nat} (q : Full C ρ D σ kp rc nw bw br) (hC : ∀ x i, ¬ (x < 12 ∨ x = 12 ∧ (i = 4 ∨ i = 6) ∨ 518 ≤ x ∧ x < 599) → C' x i = C x i) (hD : ∀ x i, 537 ≤ x → ¬ (x = 537 ∧ (i < 17 ∨ i = 65 ∨ 77 ≤ i) ∨ 538 ≤ x ∧ x ≤ 541 ∨ 594 ≤ x ∧ x ≤ 598) → D' x i = D x i) (hX : Ext C' D' nw') (hn : (nw + 1) / 2 ≤ (nw' + 1) / 2) : Full C' ρ D' σ kp rc nw' bw br := by
  obtain ⟨⟨f1, f2, f3, f4⟩, f5, ⟨f6, f7, fX⟩, f8, f9, f10, f11, f12, f13, f14, f15, f16⟩ := q
  have hdp : ∀ u, u < 6 → dpC C' u = dpC C u := fun u hu => by unfold dpC; rw [hC _ _ (by omega)]
  have hi : ∀ u, u < 6 → inC u C C' ∧ inD u D D' := fun u hu => ⟨fun a i h1 h2 => hC a i (by omega), fun a i h1 h2 _ _ => hD a i (by omega) (by omega)⟩
  have hc9 : ∀ x i, 599 ≤ x → C' x i = C x i := fun x i hx => hC x i (by omega)
  refine ⟨⟨f1, f2, f3, f4⟩, Rpl_cell (k := 0) f5 (fun x i hx => hC x i (by omega)) (fun x i hx => hD x i (by omega) (by omega)), ⟨?_, ?_, hX⟩, ?_, Rsd_fr f9 (fun a i h1 h2 => hC a i (by omega)) (hD _ _ (by omega) (by omega)) (fun a i h1 => hD a i (by omega) (by omega)), Rrc_fr f10 (fun a i h1 h2 => hC a i (by omega)) (hD _ _ (by omega) (by omega)) (fun a i h1 h2 => hD a i (by omega) (by omega)), by rw [hD _ _ (by omega) (by omega)]; exact f11, fun t ht => Thr_own (f12 t ht) ht (hi t ht).1 (hi t ht).2 (fun _ _ _ _ _ h => Cat_loc h hc9), ?_, ?_, f15, f16⟩
  · rw [hC _ _ (by omega), hD _ _ (by omega) (by omega)]; exact f6
  · rw [hD _ _ (by omega) (by omega)]; exact f7
  · rw [hD _ _ (by omega) (by omega)]
    intro q p hp
    rw [hC _ _ (by omega)]; exact f8 q p hp
  · have := Bth_fr f13 (hD 537 63 (by omega) (by omega)) (fun p => hC _ _ (by omega)) (fun u hu => ⟨hC _ _ (by omega), hC _ _ (by omega), hD _ _ (by omega) (by omega)⟩)
    obtain ⟨f, g, bs, b1, b2, b3, b4⟩ := this
    refine ⟨f, g, bs, b1, by omega, b3, fun t ht h => ?_⟩
    obtain ⟨c1, c2, c3, c4, c5⟩ := b4 t ht h
    exact ⟨c1, c2, by omega, c4, c5⟩
  · have hb : ∀ u, u < 6 → dpC C u ≤ 10 := fun u hu => dpC_le (f12 u hu)
    have hsame : ∀ u, u < 6 → wsum C' u (dpC C' u) = wsum C u (dpC C u) ∧ rsum C' u (dpC C' u) = rsum C u (dpC C u) := by
      intro u hu
      have hdb := hb u hu
      rw [hdp u hu]
      refine ⟨wsum_congr _ (fun j hj => hC _ _ (by omega)), rsum_congr _ (fun j hj => ?_)⟩
      unfold rl
      rw [hC _ _ (by omega)]
    have ek : cntK C' = cntK C := by
      unfold cntK
      exact List.countP_congr (fun p _ => by rw [hC _ _ (by omega)])
    have s1 : sum6 (fun t => wsum C' t (dpC C' t)) = sum6 (fun t => wsum C t (dpC C t)) := by
      unfold sum6
      dsimp only
      rw [(hsame 0 (by omega)).1, (hsame 1 (by omega)).1, (hsame 2 (by omega)).1, (hsame 3 (by omega)).1, (hsame 4 (by omega)).1, (hsame 5 (by omega)).1]
    have s2 : sum6 (fun t => rsum C' t (dpC C' t)) = sum6 (fun t => rsum C t (dpC C t)) := by
      unfold sum6
      dsimp only
      rw [(hsame 0 (by omega)).2, (hsame 1 (by omega)).2, (hsame 2 (by omega)).2, (hsame 3 (by omega)).2, (hsame 4 (by omega)).2, (hsame 5 (by omega)).2]
    unfold Enr
    rw [hD _ _ (by omega) (by omega), ek, s1, s2]
    exact f14
/-- both sides, m calls made; the bounds of room on each side -/
def PR (m B1 B2 E1 E2 : Nat) (C : ao_M) (ρ : ao_H) (D : ao_M) (σ : ao_H) : Prop := ∃ kp rc n, (C 12 4 = nI n ∧ Full (tk C) ρ (ao_u D 537 0 0) σ kp rc (2 * n) (n + m) (22000 * m)) ∧ (Rv B1 B2 0 C ρ ∧ (∀ t, t < 6 → C (92 + 71 * t) 16 ≤ C 12 4) ∧ 0 ≤ C 12 6) ∧ Rx E1 E2 σ ∧ ShO ρ ∧ m ≤ 512
/-- what a call leaves: k what was thrown -/
def CR (m B1 B2 E1 E2 : Nat) (y : Int32 × ao_S) (v : Int32) (D : ao_M) (σ : ao_H) : Prop := PR (m + 1) (B1 + 5) (B2 + 3100) E1 E2 y.2.1 y.2.2 D σ ∧ D 537 0 = y.1 ∧ (y.1 = 0 → y.2.1 598 0 = v)
theorem Rv_mono {B1 B2 B1' B2' e : Nat} {M : ao_M} {ρ : ao_H} (h : Rv B1 B2 e M ρ) (h1 : B1 ≤ B1') (h2 : B2 ≤ B2') : Rv B1' B2' e M ρ := by
  obtain ⟨a, rm, b, c, d⟩ := h
  exact ⟨a, rm, b, by omega, by omega⟩
theorem Mv_fr {M M' : ao_M} {rm : Nat} (h : Mv M rm) (hC : ∀ x i, x = 8 ∧ i = 0 ∨ x = 29 ∨ x = 30 ∨ x = 12 ∧ i = 6 ∨ 13 ≤ x ∧ x < 518 → M' x i = M x i) : Mv M' rm := by
  obtain ⟨a1, a2, a3, a4, a5, a6⟩ := h
  refine ⟨by rw [hC _ _ (by omega)]; exact a1, by rw [hC _ _ (by omega)]; exact a2, a3, a4, fun t ht => ?_, fun i hi => ?_⟩
  · rw [hC _ _ (by omega), hC _ _ (by omega)]; exact a5 t ht
  · rw [hC _ _ (by omega), hC _ _ (by omega)]; exact a6 i hi
theorem th_z {ρ : ao_H} {z : Nat} (h : ρ.2.2.2.1 = some z) : (ao_th ρ).2.2.2.1 = some (z + 1) := by
  show ρ.2.2.2.1.map (· + 1) = some (z + 1)
  rw [h]; rfl
/-- a thing thrown -/
theorem Full_th {C D : ao_M} {ρ σ : ao_H} {kp rc nw bw br : Nat} (q : Full C ρ D σ kp rc nw bw br) : Full C (ao_th ρ) D σ kp rc nw bw br := by
  refine Full_own (O := fun _ => True) (P := fun _ => True) q ⟨fun x _ => ⟨rfl, rfl, rfl, rfl⟩, fun z hz => ⟨z + 1, th_z hz, by omega⟩⟩ (fun _ _ => trivial) (fun _ _ _ _ _ => trivial) ⟨fun x _ => ⟨rfl, rfl, rfl, rfl⟩, fun z hz => ⟨z, hz, Nat.le_refl _⟩⟩ (fun _ _ _ => trivial) (fun _ _ _ _ _ => trivial)
theorem Rv_th {B1 B2 : Nat} {M : ao_M} {ρ : ao_H} (h : Rv B1 B2 0 M ρ) : Rv (B1 + 5) (B2 + 3100) 0 M (ao_th ρ) := by
  obtain ⟨⟨a1, a2, ⟨z, z1, z2⟩, a4⟩, rm, b, c, d⟩ := h
  refine ⟨⟨a1, a2, ⟨z + 1, th_z z1, by omega⟩, Ku_mk a4 (fun x => Or.inl rfl) (Kz_th (Ku_z a4))⟩, rm, b, ?_, ?_⟩
  · show ρ.2.2.2.2.1 + 1 + 0 ≤ _
    omega
  · show ρ.2.2.2.2.2 + 6 + 0 * rm ≤ _
    omega
theorem PR_up {m B1 B2 E1 E2 kp rc n : Nat} {C D : ao_M} {ρ σ : ao_H} (h1 : C 12 4 = nI n) (h2 : Full (tk C) ρ (ao_u D 537 0 0) σ kp rc (2 * n) (n + m) (22000 * m)) (h3 : Rv (B1 + 5) (B2 + 3100) 0 C ρ) (h3' : (∀ t, t < 6 → C (92 + 71 * t) 16 ≤ C 12 4) ∧ 0 ≤ C 12 6) (h4 : Rx E1 E2 σ) (h5 : ShO ρ) (hm : m + 1 ≤ 512) : PR (m + 1) (B1 + 5) (B2 + 3100) E1 E2 C ρ D σ := by
  have hn : n ≤ 20000 := by
    have := h2.2.2.1.2.2.2.2.2.1
    omega
  exact ⟨kp, rc, n, ⟨h1, Full_br h2 (by omega) (by omega) (by omega) (by omega)⟩, ⟨h3, h3'⟩, h4, h5, hm⟩
/-- changes outside threads and places, on both sides -/
theorem PR_ext {m B1 B2 E1 E2 : Nat} {C D C' D' : ao_M} {ρ σ ρ' : ao_H} (h : PR m B1 B2 E1 E2 C ρ D σ) (hm : m + 1 ≤ 512) (hρ : ρ' = ρ ∨ ρ' = ao_th ρ) (hC : ∀ x i, ¬ (x < 12 ∧ ¬ (x = 8 ∧ i = 0) ∨ 518 ≤ x ∧ x < 599) → C' x i = C x i) (hD : ∀ x i, 537 ≤ x → ¬ (x = 537 ∧ (i < 17 ∨ 77 ≤ i) ∨ 538 ≤ x ∧ x ≤ 541 ∨ 594 ≤ x ∧ x ≤ 598) → D' x i = D x i) (hX : Rjd C D → Rtp C D → C 0 5 = D 537 3 → Rjd C' D' ∧ Rtp C' D' ∧ C' 0 5 = D' 537 3) : PR (m + 1) (B1 + 5) (B2 + 3100) E1 E2 C' ρ' D' σ := by
  obtain ⟨kp, rc, n, ⟨h1, h2⟩, h3, h4, h5, h6⟩ := h
  have c12 : ∀ i, C' 12 i = C 12 i := fun i => hC _ _ (by omega)
  have ht : ∀ x i, ¬ (x < 12 ∧ ¬ (x = 8 ∧ i = 0) ∨ 518 ≤ x ∧ x < 599) → tk C' x i = tk C x i := fun x i hx => by
    by_cases q : x = 12 ∧ (i = 4 ∨ i = 6)
    · obtain ⟨rfl, rfl | rfl⟩ := q
      · rw [tk_4, tk_4, c12]
      · rw [tk_6, tk_6, c12]
    · rw [tk_n q, tk_n q, hC x i hx]
  have hF : Full (tk C') ρ (ao_u D' 537 0 0) σ kp rc (2 * n) (n + m) (22000 * m) := by
    obtain ⟨e1, e2, e3, e4, e5, e6, e7, -⟩ := h2.2.2.1.2.2
    refine Full_ext h2 (fun x i hx => ht x i (by omega)) (fun x i h1 h2 => by rw [u_ne (by omega), u_ne (by omega), hD x i h1 (by omega)]) ?_ (Nat.le_refl _)
    have j1 : Rjd C D := by
      obtain ⟨k, k1, k2, k3, k4⟩ := e1
      rw [u_ne (by omega)] at k3
      exact ⟨k, k1, by rw [← k2, tk_n (by omega)], k3, fun i hi => by have := k4 i hi; rw [tk_n (by omega), u_ne (by omega)] at this; exact this⟩
    have j2 : Rtp C D := by
      obtain ⟨k, k1, k2, k3, k4⟩ := e2
      rw [u_ne (by omega)] at k3
      exact ⟨k, k1, by rw [← k2, tk_n (by omega)], k3, fun i hi => by have := k4 i hi; rw [tk_n (by omega), u_ne (by omega)] at this; exact this⟩
    have j3 : C 0 5 = D 537 3 := by rw [tk_n (by omega), u_ne (by omega)] at e3; exact e3
    obtain ⟨g1, g2, g3⟩ := hX j1 j2 j3
    refine ⟨?_, ?_, ?_, e4, ?_, ?_, ?_, u_eq⟩
    · obtain ⟨k, k1, k2, k3, k4⟩ := g1
      exact ⟨k, k1, by rw [tk_n (by omega)]; exact k2, by rw [u_ne (by omega)]; exact k3, fun i hi => by rw [tk_n (by omega), u_ne (by omega)]; exact k4 i hi⟩
    · obtain ⟨k, k1, k2, k3, k4⟩ := g2
      exact ⟨k, k1, by rw [tk_n (by omega)]; exact k2, by rw [u_ne (by omega)]; exact k3, fun i hi => by rw [tk_n (by omega), u_ne (by omega)]; exact k4 i hi⟩
    · rw [tk_n (by omega), u_ne (by omega)]; exact g3
    · rw [ht _ _ (by omega)]; exact e5
    · rw [u_ne (by omega), hD _ _ (by omega) (by omega)]; rw [u_ne (by omega)] at e6; exact e6
    · rw [ht _ _ (by omega)]; exact e7
  have hM : Rv B1 B2 0 C' ρ := by
    obtain ⟨⟨a, rm, b, c, d⟩, -⟩ := h3
    exact ⟨a, rm, Mv_fr b (fun x i hx => hC x i (by omega)), c, d⟩
  have hM' : (∀ t, t < 6 → C' (92 + 71 * t) 16 ≤ C' 12 4) ∧ 0 ≤ C' 12 6 := ⟨fun t ht => by
    rw [hC _ _ (by omega), hC _ _ (by omega)]
    exact h3.2.1 t ht, by rw [hC _ _ (by omega)]; exact h3.2.2⟩
  rcases hρ with rfl | rfl
  · exact PR_up (by rw [c12]; exact h1) hF (Rv_mono hM (by omega) (by omega)) hM' h4 h5 hm
  · exact PR_up (by rw [c12]; exact h1) (Full_th hF) (Rv_th hM) hM' h4 h5 hm
/-- a call that only tells -/
theorem PR_tell {m B1 B2 E1 E2 : Nat} {C D : ao_M} {ρ σ : ao_H} {y : Int32 × ao_S} {w : Int32 × ao_M} (h : PR m B1 B2 E1 E2 C ρ D σ) (hm : m + 1 ≤ 512) (t : TellP C ρ D y w) : CR m B1 B2 E1 E2 y w.1 w.2 σ := by
  obtain ⟨t1, t2⟩ := t
  have key : ∀ C' ρ', (ρ' = ρ ∨ ρ' = ao_th ρ) → (∀ x i, x ≠ 598 → C' x i = C x i) → PR (m + 1) (B1 + 5) (B2 + 3100) E1 E2 C' ρ' w.2 σ := by
    intro C' ρ' hρ hC
    have dD : ∀ x i, ¬ (x = 537 ∧ i = 0) → w.2 x i = D x i := fun x i q => by rw [t1, u_ne (by omega)]
    refine PR_ext h hm hρ (fun x i hx => hC x i (by omega)) (fun x i h1 h2 => dD x i (by omega)) ?_
    rintro ⟨k, k1, k2, k3, k4⟩ ⟨l, l1, l2, l3, l4⟩ q
    refine ⟨⟨k, k1, ?_, ?_, fun i hi => ?_⟩, ⟨l, l1, ?_, ?_, fun i hi => ?_⟩, ?_⟩
    · rw [hC _ _ (by omega)]; exact k2
    · rw [dD _ _ (by omega)]; exact k3
    · rw [hC _ _ (by omega), dD _ _ (by omega)]; exact k4 i hi
    · rw [hC _ _ (by omega)]; exact l2
    · rw [dD _ _ (by omega)]; exact l3
    · rw [hC _ _ (by omega), dD _ _ (by omega)]; exact l4 i hi
    · rw [hC _ _ (by omega), dD _ _ (by omega)]; exact q
  have e0 : w.2 537 0 = y.1 := by rw [t1, u_eq]
  rcases t2 with ⟨a, b, c⟩ | ⟨a, b, c⟩
  · refine ⟨key _ _ (Or.inl b) (fun x i hx => by rw [c, u_ne (by omega)]), e0, fun _ => by rw [c, u_eq]⟩
  · refine ⟨key _ _ (Or.inr b) (fun x i hx => by rw [c]), e0, fun q => absurd q a⟩

/-- the turn's number stands for the last turn's -/
theorem Rv_tk {B1 B2 : Nat} {C : ao_M} {ρ : ao_H} (h : Rv B1 B2 0 C ρ) (g : ∀ t, t < 6 → C (92 + 71 * t) 16 ≤ C 12 4) : Rv B1 B2 0 (tk C) ρ := by
  obtain ⟨a, rm, ⟨a1, a2, a3, a4, a5, a6⟩, c, d⟩ := h
  refine ⟨a, rm, ⟨by rw [tk_n (by omega)]; exact a1, by rw [tk_n (by omega)]; exact a2, a3, a4, fun t ht => ?_, fun i hi => ?_⟩, c, d⟩
  · rw [tk_n (by omega), tk_6]; exact g t ht
  · rw [tk_n (by omega), tk_n (by omega)]; exact a6 i hi
theorem HxC_rm {C C1 C2 C3 : ao_M} {ρ ρ1 : ao_H} (h : HxC C ρ C1 ρ1) (e : C2 13 9 = C 13 9) (e' : C3 13 9 = C1 13 9) : HxC C2 ρ C3 ρ1 := by
  unfold HxC rmC at *
  rw [e, e']
  exact h
theorem u_self {M : ao_M} {x i : Nat} {v : Int32} (h : M x i = v) : ao_u M x i v = M := by
  funext a j
  by_cases q : a = x ∧ j = i
  · obtain ⟨rfl, rfl⟩ := q
    rw [u_eq, h]
  · rw [u_ne (by omega)]
