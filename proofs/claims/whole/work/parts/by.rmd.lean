set_option linter.unusedSimpArgs false
set_option linter.unusedVariables false
/-! ===== what a turn keeps of the reference's heap (by wip/whole/pure/genrd.py) ===== -/
def lnP (ρ : ao_H) (c : Nat) : Nat := ρ.2.2.1 ((ρ.1 537 c).getD 0)
def Rx (B1 B2 : Nat) (ρ : ao_H) : Prop := ShD ρ ∧ ShX ρ ∧ Ku ρ ∧ (∃ z, ρ.2.2.2.1 = some z ∧ 599 ≤ z) ∧ (∀ c, 22 ≤ c → c ≤ 24 → ∃ a, ρ.1 537 c = some a ∧ 1 ≤ ρ.2.2.1 a ∧ ρ.2.2.1 a ≤ 67108864 ∧ ∀ z, ρ.2.2.2.1 = some z → a < z) ∧ ρ.2.2.2.2.1 ≤ B1 + (lnP ρ 22 + lnP ρ 23 + lnP ρ 24) ∧ ρ.2.2.2.2.2 ≤ B2 + 2 * (lnP ρ 22 + lnP ρ 23 + lnP ρ 24)
theorem f_bindT {α β : Type} {o : Option α} {f : α → Option β} {Q : β → Prop} (k : ∀ y, ∀ z, f y = some z → Q z) : ∀ z, o.bind f = some z → Q z := f_bind (P := fun _ => True) (fun _ _ => trivial) (fun y _ => k y)
theorem f_letT {α β : Type} {Q : β → Prop} {v : α} {f : α → Option β} (k : ∀ M', ∀ z, f M' = some z → Q z) : ∀ z, ao_let v f = some z → Q z := k v
section Rd
variable {B1 B2 : Nat}
/-- a longer array in place of one of pasts -/
theorem Rw_grow {ρ : ao_H} {c j q : Nat} (h : Rx B1 B2 ρ) (h1 : 22 ≤ c) (h2 : c ≤ 24) (hj : ρ.1 537 c = some j) (hq : ρ.2.2.2.1 = some q) (hl : 2 * ρ.2.2.1 j ≤ 67108864) : Rx B1 B2 (ao_r (ao_nw ρ q 0 (2 * ρ.2.2.1 j) (2 * ρ.2.2.1 j)) 537 c (some q)) := by
  obtain ⟨hD, ⟨x1, x2⟩, hu, ⟨z, z1, z2⟩, ha, o1, o2⟩ := h
  obtain rfl : z = q := by rw [z1] at hq; exact Option.some.inj hq
  have fr : ∀ x k, x ≠ z → ¬ (x = 537 ∧ k = c) → (ao_r (ao_nw ρ z 0 (2 * ρ.2.2.1 j) (2 * ρ.2.2.1 j)) 537 c (some z)).1 x k = ρ.1 x k := fun x k e1 e2 => by
    show (if x = 537 ∧ k = c then some z else (ao_nw ρ z 0 (2 * ρ.2.2.1 j) (2 * ρ.2.2.1 j)).1 x k) = ρ.1 x k
    rw [if_neg e2]
    exact nw_F e1
  have ec : (ao_r (ao_nw ρ z 0 (2 * ρ.2.2.1 j) (2 * ρ.2.2.1 j)) 537 c (some z)).1 537 c = some z := r_Fe
  have ll : ∀ x, x ≠ z → (ao_r (ao_nw ρ z 0 (2 * ρ.2.2.1 j) (2 * ρ.2.2.1 j)) 537 c (some z)).2.2.1 x = ρ.2.2.1 x := fun x e => nw_L e
  have le : (ao_r (ao_nw ρ z 0 (2 * ρ.2.2.1 j) (2 * ρ.2.2.1 j)) 537 c (some z)).2.2.1 z = 2 * ρ.2.2.1 j := nw_Le
  have hlc : lnP (ao_r (ao_nw ρ z 0 (2 * ρ.2.2.1 j) (2 * ρ.2.2.1 j)) 537 c (some z)) c = 2 * lnP ρ c := by
    unfold lnP
    rw [ec, hj]
    exact le
  have hln : ∀ c', 22 ≤ c' → c' ≤ 24 → c' ≠ c → lnP (ao_r (ao_nw ρ z 0 (2 * ρ.2.2.1 j) (2 * ρ.2.2.1 j)) 537 c (some z)) c' = lnP ρ c' := by
    intro c' q1 q2 q3
    obtain ⟨a, a1, a2, a3, a4⟩ := ha c' q1 q2
    unfold lnP
    rw [fr 537 c' (by omega) (by omega), a1]
    exact ll a (by have := a4 z z1; omega)
  obtain ⟨j', j1, j2, j3, j4⟩ := ha c h1 h2
  obtain rfl : j' = j := by rw [hj] at j1; exact (Option.some.inj j1).symm
  have hjl : lnP ρ c = ρ.2.2.1 j' := by unfold lnP; rw [hj]; rfl
  have hS : lnP (ao_r (ao_nw ρ z 0 (2 * ρ.2.2.1 j') (2 * ρ.2.2.1 j')) 537 c (some z)) 22 + lnP (ao_r (ao_nw ρ z 0 (2 * ρ.2.2.1 j') (2 * ρ.2.2.1 j')) 537 c (some z)) 23 + lnP (ao_r (ao_nw ρ z 0 (2 * ρ.2.2.1 j') (2 * ρ.2.2.1 j')) 537 c (some z)) 24 = lnP ρ 22 + lnP ρ 23 + lnP ρ 24 + ρ.2.2.1 j' := by
    rcases (show c = 22 ∨ c = 23 ∨ c = 24 by omega) with rfl | rfl | rfl
    · rw [hlc, hln 23 (by omega) (by omega) (by omega), hln 24 (by omega) (by omega) (by omega)]; omega
    · rw [hlc, hln 22 (by omega) (by omega) (by omega), hln 24 (by omega) (by omega) (by omega)]; omega
    · rw [hlc, hln 22 (by omega) (by omega) (by omega), hln 23 (by omega) (by omega) (by omega)]; omega
  refine ⟨?_, ⟨?_, ?_⟩, ?_, ⟨z + 1, rfl, by omega⟩, ?_, ?_, ?_⟩
  · exact ShD_own (ρ := ρ) (fun x hx => nw_K (by omega)) (fun x hx => ll x (by omega)) (fun x k hx q => fr x k (by omega) (by omega)) hD
  · rw [fr _ _ (by omega) (by omega)]; exact x1
  · show (ao_nw ρ z 0 (2 * ρ.2.2.1 j') (2 * ρ.2.2.1 j')).2.1 538 = 21
    rw [nw_K (by omega)]; exact x2
  · refine Ku_mk hu (fun x => ?_) (Kz_r (Kz_nw (Ku_z hu) z1) nw_Z (by omega) (by omega))
    by_cases q : x = z
    · subst q
      exact Or.inr (Or.inr nw_Ke)
    · exact Or.inl (nw_K q)
  · intro c' q1 q2
    by_cases q : c' = c
    · subst q
      refine ⟨z, ec, ?_, ?_, fun w hw => ?_⟩
      · rw [le]; omega
      · rw [le]; exact hl
      · have : some (z + 1) = some w := hw
        have := Option.some.inj this
        omega
    · obtain ⟨a, a1, a2, a3, a4⟩ := ha c' q1 q2
      have haz := a4 z z1
      refine ⟨a, ?_, ?_, ?_, fun w hw => ?_⟩
      · rw [fr _ _ (by omega) (by omega)]; exact a1
      · rw [ll a (by omega)]; exact a2
      · rw [ll a (by omega)]; exact a3
      · have : some (z + 1) = some w := hw
        have := Option.some.inj this
        omega
  · rw [hS]
    show ρ.2.2.2.2.1 + 1 ≤ _
    omega
  · rw [hS]
    show ρ.2.2.2.2.2 + 2 * ρ.2.2.1 j' ≤ _
    omega
theorem rw_longer {n j : Nat} {M : ao_M} {ρ : ao_H} (hl : ρ.2.2.1 j ≤ 67108864) : ∀ z, gX12_longer n j M ρ = some z → ρ.2.2.2.1 = some z.1 ∧ z.2.2 = ao_nw ρ z.1 0 (2 * ρ.2.2.1 j) (2 * ρ.2.2.1 j) ∧ 2 * ρ.2.2.1 j ≤ 67108864 := by
  have h9 : ∀ n r1 x q M ρ, ∀ z, fX12_longer n 9 j r1 x q M ρ = some z → z.1 = r1 ∧ z.2.2 = ρ := by
    intro n
    induction n with
    | zero => intro r1 x q M ρ z h; rw [fX12_longer.eq_1] at h; exact nomatch h
    | succ n ih =>
      intro r1 x q M ρ
      rw [fX12_longer.eq_2]
      simp only [Nat.reduceEqDiff, ↓reduceIte]
      refine f_ite (fun hc => ?_) (fun hc => f_none)
      refine f_ite (fun hc => f_some ⟨rfl, rfl⟩) (fun hc => ?_)
      refine f_ite (fun hc => ?_) (fun hc => f_none)
      refine f_ite (fun hc => ?_) (fun hc => f_none)
      refine f_ite (fun hc => ?_) (fun hc => f_none)
      exact ih _ _ _ _ _
  unfold gX12_longer
  cases n with
  | zero => intro z h; rw [fX12_longer.eq_1] at h; exact nomatch h
  | succ n =>
    rw [fX12_longer.eq_2]
    simp only [↓reduceIte]
    refine f_ite (fun hc => ?_) (fun hc => f_none)
    refine f_bind (P := fun j => ρ.2.2.2.1 = some j) (fun j q => q) (fun q hq => ?_)
    have e2 : (2 : Int32) * nI (ρ.2.2.1 j) = nI (2 * ρ.2.2.1 j) := n_lmul
    have e3 : (nI (2 * ρ.2.2.1 j)).toNatClampNeg = 2 * ρ.2.2.1 j := n_cl (by omega)
    rw [e2, e3]
    refine f_ite (fun hc => ?_) (fun hc => f_none)
    cases n with
    | zero => intro z h; rw [fX12_longer.eq_1] at h; exact nomatch h
    | succ n =>
      rw [fX12_longer.eq_2]
      simp only [Nat.reduceEqDiff, ↓reduceIte]
      intro z hz
      obtain ⟨a1, a2⟩ := h9 _ _ _ _ _ _ z hz
      subst a1
      exact ⟨hq, a2, by omega⟩
def cRm (pc : Nat) : Nat := if pc = 20 then 22 else if pc = 31 then 23 else 24
theorem rw_fX12_remember : ∀ (n pc r0 : Nat) (x1 : Int32) (q0 q1 : Nat) (M : ao_M) (ρ : ao_H), ((pc = 20 ∨ pc = 31 ∨ pc = 42) → ∃ ρ1 j, Rx B1 B2 ρ1 ∧ ρ1.1 537 (cRm pc) = some j ∧ ρ1.2.2.2.1 = some q0 ∧ 2 * ρ1.2.2.1 j ≤ 67108864 ∧ ρ = ao_nw ρ1 q0 0 (2 * ρ1.2.2.1 j) (2 * ρ1.2.2.1 j)) → (¬ (pc = 20 ∨ pc = 31 ∨ pc = 42) → Rx B1 B2 ρ) → ∀ z, fX12_remember n pc r0 x1 q0 q1 M ρ = some z → Rx B1 B2 z.2 := by
  intro n
  induction n with
  | zero => intros; exact absurd (by assumption) (by simp [fX12_remember.eq_1])
  | succ n ih =>
    intro pc r0 x1 q0 q1 M ρ hg hI
    rw [fX12_remember.eq_2]
    have grow : ∀ pc' c j r0 x1 q1 M, 22 ≤ c → c ≤ 24 → cRm pc' = c → (pc' = 20 ∨ pc' = 31 ∨ pc' = 42) → Rx B1 B2 ρ → ρ.2.1 r0 = 22 → ρ.1 r0 c = some j → ∀ z, ((gX12_longer n j M ρ).bind fun p => fX12_remember n pc' r0 x1 p.1 q1 p.2.1 p.2.2) = some z → Rx B1 B2 z.2 := by
      intro pc' c j r0 x1 q1 M c1 c2 c3 c4 hR hk hj
      obtain rfl := (hR.2.2.1 r0).2.2.2.2.2.2.2.2.2.1 hk
      obtain ⟨a, a1, a2, a3, a4⟩ := hR.2.2.2.2.1 c c1 c2
      obtain rfl : a = j := by rw [hj] at a1; exact (Option.some.inj a1).symm
      refine f_bind (rw_longer a3) (fun y hy => ?_)
      exact ih _ _ _ _ _ _ _ (fun _ => ⟨ρ, a, hR, by rw [c3]; exact hj, hy.1, hy.2.2, hy.2.1⟩) (fun h => absurd c4 h)
    have setr : ∀ pc' r0 x1 q0 q1 M, (pc = 20 ∨ pc = 31 ∨ pc = 42) → (∃ ρ1 j, Rx B1 B2 ρ1 ∧ ρ1.1 537 (cRm pc) = some j ∧ ρ1.2.2.2.1 = some q0 ∧ 2 * ρ1.2.2.1 j ≤ 67108864 ∧ ρ = ao_nw ρ1 q0 0 (2 * ρ1.2.2.1 j) (2 * ρ1.2.2.1 j)) → ρ.2.1 q1 = 22 → ¬ (pc' = 20 ∨ pc' = 31 ∨ pc' = 42) → ∀ z, fX12_remember n pc' r0 x1 0 0 M (ao_r ρ q1 (cRm pc) (some q0)) = some z → Rx B1 B2 z.2 := by
      intro pc' r0 x1 q0 q1 M hp hg hk hp'
      obtain ⟨ρ1, j, hR, hj, hq, hl, rfl⟩ := hg
      have hq1 : q1 = 537 := by
        by_cases e : q1 = q0
        · subst e; rw [nw_Ke] at hk; omega
        · rw [nw_K e] at hk; exact (hR.2.2.1 q1).2.2.2.2.2.2.2.2.2.1 hk
      subst hq1
      refine ih _ _ _ _ _ _ _ (fun h => absurd h hp') (fun _ => Rw_grow hR ?_ ?_ hj hq hl)
      · unfold cRm; split <;> (try split) <;> omega
      · unfold cRm; split <;> (try split) <;> omega
    refine f_ite (fun hp => ?_) (fun hp => ?_)
    · subst hp
      have hR := hI (by omega)
      refine f_ite (fun hk => ?_) (fun hc => f_none)
      refine f_bind (P := fun j => ρ.1 r0 22 = some j) (fun j q => q) (fun j hj => ?_)
      refine f_ite (fun hc => ?_) (fun hc => f_none)
      refine f_ite (fun hc => ?_) (fun hc => ih _ _ _ _ _ _ _ (fun h => by omega) (fun _ => hR))
      exact grow 20 22 j _ _ _ _ (by omega) (by omega) rfl (by omega) hR hk hj
    refine f_ite (fun hp => ?_) (fun hp => ?_)
    · subst hp
      refine f_ite (fun hk => ?_) (fun hc => f_none)
      exact setr 23 _ _ _ _ _ (by omega) (hg (by omega)) hk (by omega)
    refine f_ite (fun hp => ?_) (fun hp => ?_)
    · subst hp
      have hR := hI (by omega)
      refine f_ite (fun hk => ?_) (fun hc => f_none)
      refine f_bind (P := fun j => ρ.1 r0 23 = some j) (fun j q => q) (fun j hj => ?_)
      exact grow 31 23 j _ _ _ _ (by omega) (by omega) rfl (by omega) hR hk hj
    refine f_ite (fun hp => ?_) (fun hp => ?_)
    · subst hp
      refine f_ite (fun hk => ?_) (fun hc => f_none)
      exact setr 34 _ _ _ _ _ (by omega) (hg (by omega)) hk (by omega)
    refine f_ite (fun hp => ?_) (fun hp => ?_)
    · subst hp
      have hR := hI (by omega)
      refine f_ite (fun hk => ?_) (fun hc => f_none)
      refine f_bind (P := fun j => ρ.1 r0 24 = some j) (fun j q => q) (fun j hj => ?_)
      exact grow 42 24 j _ _ _ _ (by omega) (by omega) rfl (by omega) hR hk hj
    refine f_ite (fun hp => ?_) (fun hp => ?_)
    · subst hp
      refine f_ite (fun hk => ?_) (fun hc => f_none)
      exact setr 45 _ _ _ _ _ (by omega) (hg (by omega)) hk (by omega)
    have hR : ¬ (pc = 20 ∨ pc = 31 ∨ pc = 42) → Rx B1 B2 ρ := hI
    refine f_ite (fun hp => ?_) (fun hp => f_none)
    have hR2 := hI (by omega)
    clear hR hI ih grow setr hg
    repeat' (with_reducible (first | exact f_none | refine f_ite (fun hc => ?_) (fun hc => ?_) | refine f_letT (fun M' => ?_) | refine f_bindT (fun j => ?_) | exact f_some (by assumption)))
theorem rw_gX12_remember {n r0 : Nat} {x1 : Int32} {M : ao_M} {ρ : ao_H} (hI : Rx B1 B2 ρ) : ∀ z, gX12_remember n r0 x1 M ρ = some z → Rx B1 B2 z.2 := by
  unfold gX12_remember
  exact rw_fX12_remember _ _ _ _ _ _ _ _ (fun h => by omega) (fun _ => hI)
set_option maxRecDepth 100000 in
set_option maxHeartbeats 4000000 in
theorem rw_fX12_free : ∀ (n : Nat) (pc : Nat) (r0 : Nat) (x1 : Int32) (x2 : Int32) (x3 : Int32) (M : ao_M) (ρ : ao_H), Rx B1 B2 ρ → ∀ z, fX12_free n pc r0 x1 x2 x3 M ρ = some z → Rx B1 B2 z.2 := by
  intro n
  induction n with
  | zero => intros; exact absurd (by assumption) (by simp [fX12_free.eq_1])
  | succ n ih =>
    intro pc r0 x1 x2 x3 M ρ hI
    rw [fX12_free.eq_2]
    repeat' (with_reducible (first | exact f_none | refine f_ite (fun hc => ?_) (fun hc => ?_) | refine f_letT (fun M' => ?_) | refine ih _ _ _ _ _ _ _ (by assumption) | refine f_bind (rw_gX12_remember (by assumption)) (fun y hy => ?_)  | refine f_bindT (fun j => ?_) | exact f_some (by assumption)))
set_option maxRecDepth 100000 in
set_option maxHeartbeats 4000000 in
theorem rw_gX12_free {n : Nat} {r0 : Nat} {x1 : Int32} {M : ao_M} {ρ : ao_H} (hI : Rx B1 B2 ρ) : ∀ z, gX12_free n r0 x1 M ρ = some z → Rx B1 B2 z.2 := by
  unfold gX12_free
  exact rw_fX12_free _ _ _ _ _ _ _ _ hI
set_option maxRecDepth 100000 in
set_option maxHeartbeats 4000000 in
theorem rw_fX12_restart : ∀ (n : Nat) (pc : Nat) (r0 : Nat) (x1 : Int32) (x2 : Int32) (M : ao_M) (ρ : ao_H), Rx B1 B2 ρ → ∀ z, fX12_restart n pc r0 x1 x2 M ρ = some z → Rx B1 B2 z.2 := by
  intro n
  induction n with
  | zero => intros; exact absurd (by assumption) (by simp [fX12_restart.eq_1])
  | succ n ih =>
    intro pc r0 x1 x2 M ρ hI
    rw [fX12_restart.eq_2]
    repeat' (with_reducible (first | exact f_none | refine f_ite (fun hc => ?_) (fun hc => ?_) | refine f_letT (fun M' => ?_) | refine ih _ _ _ _ _ _ (by assumption) | refine f_bind (rw_gX12_free (by assumption)) (fun y hy => ?_)  | refine f_bindT (fun j => ?_) | exact f_some (by assumption)))
set_option maxRecDepth 100000 in
set_option maxHeartbeats 4000000 in
theorem rw_gX12_restart {n : Nat} {r0 : Nat} {x1 : Int32} {x2 : Int32} {M : ao_M} {ρ : ao_H} (hI : Rx B1 B2 ρ) : ∀ z, gX12_restart n r0 x1 x2 M ρ = some z → Rx B1 B2 z.2 := by
  unfold gX12_restart
  exact rw_fX12_restart _ _ _ _ _ _ _ hI
set_option maxRecDepth 100000 in
set_option maxHeartbeats 4000000 in
theorem rw_fX12_conflict : ∀ (n : Nat) (pc : Nat) (r0 : Nat) (x1 : Int32) (x2 : Int32) (s0 : Int32) (s1 : Int32) (q2 : Nat) (M : ao_M) (ρ : ao_H), Rx B1 B2 ρ → ∀ z, fX12_conflict n pc r0 x1 x2 s0 s1 q2 M ρ = some z → Rx B1 B2 z.2 := by
  intro n
  induction n with
  | zero => intros; exact absurd (by assumption) (by simp [fX12_conflict.eq_1])
  | succ n ih =>
    intro pc r0 x1 x2 s0 s1 q2 M ρ hI
    rw [fX12_conflict.eq_2]
    repeat' (with_reducible (first | exact f_none | refine f_ite (fun hc => ?_) (fun hc => ?_) | refine f_letT (fun M' => ?_) | refine ih _ _ _ _ _ _ _ _ _ (by assumption) | refine f_bind (rw_gX12_restart (by assumption)) (fun y hy => ?_)  | refine f_bindT (fun j => ?_) | exact f_some (by assumption)))
set_option maxRecDepth 100000 in
set_option maxHeartbeats 4000000 in
theorem rw_gX12_conflict {n : Nat} {r0 : Nat} {x1 : Int32} {M : ao_M} {ρ : ao_H} (hI : Rx B1 B2 ρ) : ∀ z, gX12_conflict n r0 x1 M ρ = some z → Rx B1 B2 z.2 := by
  unfold gX12_conflict
  exact rw_fX12_conflict _ _ _ _ _ _ _ _ _ _ hI
set_option maxRecDepth 100000 in
set_option maxHeartbeats 4000000 in
theorem rw_fX12_goesOn : ∀ (n : Nat) (pc : Nat) (r0 : Nat) (x1 : Int32) (M : ao_M) (ρ : ao_H), Rx B1 B2 ρ → ∀ z, fX12_goesOn n pc r0 x1 M ρ = some z → Rx B1 B2 z.2.2 := by
  intro n
  induction n with
  | zero => intros; exact absurd (by assumption) (by simp [fX12_goesOn.eq_1])
  | succ n ih =>
    intro pc r0 x1 M ρ hI
    rw [fX12_goesOn.eq_2]
    repeat' (with_reducible (first | exact f_none | refine f_ite (fun hc => ?_) (fun hc => ?_) | refine f_letT (fun M' => ?_) | refine ih _ _ _ _ _ (by assumption) | refine f_bind (rw_gX12_conflict (by assumption)) (fun y hy => ?_)  | refine f_bindT (fun j => ?_) | exact f_some (by assumption)))
set_option maxRecDepth 100000 in
set_option maxHeartbeats 4000000 in
theorem rw_gX12_goesOn {n : Nat} {r0 : Nat} {x1 : Int32} {M : ao_M} {ρ : ao_H} (hI : Rx B1 B2 ρ) : ∀ z, gX12_goesOn n r0 x1 M ρ = some z → Rx B1 B2 z.2.2 := by
  unfold gX12_goesOn
  exact rw_fX12_goesOn _ _ _ _ _ _ hI
set_option maxRecDepth 100000 in
set_option maxHeartbeats 4000000 in
theorem rw_fX12_wins : ∀ (n : Nat) (pc : Nat) (r0 : Nat) (x1 : Int32) (x2 : Int32) (x3 : Int32) (M : ao_M) (ρ : ao_H), Rx B1 B2 ρ → ∀ z, fX12_wins n pc r0 x1 x2 x3 M ρ = some z → Rx B1 B2 z.2.2 := by
  intro n
  induction n with
  | zero => intros; exact absurd (by assumption) (by simp [fX12_wins.eq_1])
  | succ n ih =>
    intro pc r0 x1 x2 x3 M ρ hI
    rw [fX12_wins.eq_2]
    repeat' (with_reducible (first | exact f_none | refine f_ite (fun hc => ?_) (fun hc => ?_) | refine f_letT (fun M' => ?_) | refine ih _ _ _ _ _ _ _ (by assumption) | refine f_bind (rw_gX12_restart (by assumption)) (fun y hy => ?_)  | refine f_bindT (fun j => ?_) | exact f_some (by assumption)))
set_option maxRecDepth 100000 in
set_option maxHeartbeats 4000000 in
theorem rw_gX12_wins {n : Nat} {r0 : Nat} {x1 : Int32} {x2 : Int32} {M : ao_M} {ρ : ao_H} (hI : Rx B1 B2 ρ) : ∀ z, gX12_wins n r0 x1 x2 M ρ = some z → Rx B1 B2 z.2.2 := by
  unfold gX12_wins
  exact rw_fX12_wins _ _ _ _ _ _ _ _ hI
set_option maxRecDepth 100000 in
set_option maxHeartbeats 4000000 in
theorem rw_fX12_looks : ∀ (n : Nat) (pc : Nat) (r0 : Nat) (x1 : Int32) (x2 : Int32) (x3 : Int32) (s0 : Int32) (q1 : Nat) (M : ao_M) (ρ : ao_H), Rx B1 B2 ρ → ∀ z, fX12_looks n pc r0 x1 x2 x3 s0 q1 M ρ = some z → Rx B1 B2 z.2.2 := by
  intro n
  induction n with
  | zero => intros; exact absurd (by assumption) (by simp [fX12_looks.eq_1])
  | succ n ih =>
    intro pc r0 x1 x2 x3 s0 q1 M ρ hI
    rw [fX12_looks.eq_2]
    repeat' (with_reducible (first | exact f_none | refine f_ite (fun hc => ?_) (fun hc => ?_) | refine f_letT (fun M' => ?_) | refine ih _ _ _ _ _ _ _ _ _ (by assumption) | refine f_bind (rw_gX12_conflict (by assumption)) (fun y hy => ?_) | refine f_bind (rw_gX12_goesOn (by assumption)) (fun y hy => ?_) | refine f_bind (rw_gX12_wins (by assumption)) (fun y hy => ?_)  | refine f_bindT (fun j => ?_) | exact f_some (by assumption)))
set_option maxRecDepth 100000 in
set_option maxHeartbeats 4000000 in
theorem rw_gX12_looks {n : Nat} {r0 : Nat} {x1 : Int32} {x2 : Int32} {M : ao_M} {ρ : ao_H} (hI : Rx B1 B2 ρ) : ∀ z, gX12_looks n r0 x1 x2 M ρ = some z → Rx B1 B2 z.2.2 := by
  unfold gX12_looks
  exact rw_fX12_looks _ _ _ _ _ _ _ _ _ _ hI
set_option maxRecDepth 100000 in
set_option maxHeartbeats 4000000 in
theorem rw_fX12_doLook : ∀ (n : Nat) (pc : Nat) (r0 : Nat) (x1 : Int32) (x2 : Int32) (s0 : Int32) (M : ao_M) (ρ : ao_H), Rx B1 B2 ρ → ∀ z, fX12_doLook n pc r0 x1 x2 s0 M ρ = some z → Rx B1 B2 z.2.2 := by
  intro n
  induction n with
  | zero => intros; exact absurd (by assumption) (by simp [fX12_doLook.eq_1])
  | succ n ih =>
    intro pc r0 x1 x2 s0 M ρ hI
    rw [fX12_doLook.eq_2]
    repeat' (with_reducible (first | exact f_none | refine f_ite (fun hc => ?_) (fun hc => ?_) | refine f_letT (fun M' => ?_) | refine ih _ _ _ _ _ _ _ (by assumption) | refine f_bind (rw_gX12_looks (by assumption)) (fun y hy => ?_)  | refine f_bindT (fun j => ?_) | exact f_some (by assumption)))
set_option maxRecDepth 100000 in
set_option maxHeartbeats 4000000 in
theorem rw_gX12_doLook {n : Nat} {r0 : Nat} {x1 : Int32} {x2 : Int32} {M : ao_M} {ρ : ao_H} (hI : Rx B1 B2 ρ) : ∀ z, gX12_doLook n r0 x1 x2 M ρ = some z → Rx B1 B2 z.2.2 := by
  unfold gX12_doLook
  exact rw_fX12_doLook _ _ _ _ _ _ _ _ hI
set_option maxRecDepth 100000 in
set_option maxHeartbeats 4000000 in
theorem rw_fX12_write : ∀ (n : Nat) (pc : Nat) (r0 : Nat) (x1 : Int32) (x2 : Int32) (x3 : Int32) (x4 : Int32) (s0 : Int32) (M : ao_M) (ρ : ao_H), Rx B1 B2 ρ → ∀ z, fX12_write n pc r0 x1 x2 x3 x4 s0 M ρ = some z → Rx B1 B2 z.2.2 := by
  intro n
  induction n with
  | zero => intros; exact absurd (by assumption) (by simp [fX12_write.eq_1])
  | succ n ih =>
    intro pc r0 x1 x2 x3 x4 s0 M ρ hI
    rw [fX12_write.eq_2]
    repeat' (with_reducible (first | exact f_none | refine f_ite (fun hc => ?_) (fun hc => ?_) | refine f_letT (fun M' => ?_) | refine ih _ _ _ _ _ _ _ _ _ (by assumption) | refine f_bind (rw_gX12_wins (by assumption)) (fun y hy => ?_) | refine f_bind (rw_gX12_goesOn (by assumption)) (fun y hy => ?_)  | refine f_bindT (fun j => ?_) | exact f_some (by assumption)))
set_option maxRecDepth 100000 in
set_option maxHeartbeats 4000000 in
theorem rw_gX12_write {n : Nat} {r0 : Nat} {x1 : Int32} {x2 : Int32} {x3 : Int32} {M : ao_M} {ρ : ao_H} (hI : Rx B1 B2 ρ) : ∀ z, gX12_write n r0 x1 x2 x3 M ρ = some z → Rx B1 B2 z.2.2 := by
  unfold gX12_write
  exact rw_fX12_write _ _ _ _ _ _ _ _ _ _ hI
set_option maxRecDepth 100000 in
set_option maxHeartbeats 4000000 in
theorem rw_fX12_change : ∀ (n : Nat) (pc : Nat) (r0 : Nat) (x1 : Int32) (x2 : Int32) (M : ao_M) (ρ : ao_H), Rx B1 B2 ρ → ∀ z, fX12_change n pc r0 x1 x2 M ρ = some z → Rx B1 B2 z.2 := by
  intro n
  induction n with
  | zero => intros; exact absurd (by assumption) (by simp [fX12_change.eq_1])
  | succ n ih =>
    intro pc r0 x1 x2 M ρ hI
    rw [fX12_change.eq_2]
    repeat' (with_reducible (first | exact f_none | refine f_ite (fun hc => ?_) (fun hc => ?_) | refine f_letT (fun M' => ?_) | refine ih _ _ _ _ _ _ (by assumption) | refine f_bind (rw_gX12_remember (by assumption)) (fun y hy => ?_)  | refine f_bindT (fun j => ?_) | exact f_some (by assumption)))
set_option maxRecDepth 100000 in
set_option maxHeartbeats 4000000 in
theorem rw_gX12_change {n : Nat} {r0 : Nat} {x1 : Int32} {x2 : Int32} {M : ao_M} {ρ : ao_H} (hI : Rx B1 B2 ρ) : ∀ z, gX12_change n r0 x1 x2 M ρ = some z → Rx B1 B2 z.2 := by
  unfold gX12_change
  exact rw_fX12_change _ _ _ _ _ _ _ hI
set_option maxRecDepth 100000 in
set_option maxHeartbeats 4000000 in
theorem rw_fX12_doWrite : ∀ (n : Nat) (pc : Nat) (r0 : Nat) (x1 : Int32) (x2 : Int32) (x3 : Int32) (s0 : Int32) (M : ao_M) (ρ : ao_H), Rx B1 B2 ρ → ∀ z, fX12_doWrite n pc r0 x1 x2 x3 s0 M ρ = some z → Rx B1 B2 z.2.2 := by
  intro n
  induction n with
  | zero => intros; exact absurd (by assumption) (by simp [fX12_doWrite.eq_1])
  | succ n ih =>
    intro pc r0 x1 x2 x3 s0 M ρ hI
    rw [fX12_doWrite.eq_2]
    repeat' (with_reducible (first | exact f_none | refine f_ite (fun hc => ?_) (fun hc => ?_) | refine f_letT (fun M' => ?_) | refine ih _ _ _ _ _ _ _ _ (by assumption) | refine f_bind (rw_gX12_write (by assumption)) (fun y hy => ?_) | refine f_bind (rw_gX12_change (by assumption)) (fun y hy => ?_)  | refine f_bindT (fun j => ?_) | exact f_some (by assumption)))
set_option maxRecDepth 100000 in
set_option maxHeartbeats 4000000 in
theorem rw_gX12_doWrite {n : Nat} {r0 : Nat} {x1 : Int32} {x2 : Int32} {M : ao_M} {ρ : ao_H} (hI : Rx B1 B2 ρ) : ∀ z, gX12_doWrite n r0 x1 x2 M ρ = some z → Rx B1 B2 z.2.2 := by
  unfold gX12_doWrite
  exact rw_fX12_doWrite _ _ _ _ _ _ _ _ _ hI
set_option maxRecDepth 100000 in
set_option maxHeartbeats 4000000 in
theorem rw_fX12_mayEnd : ∀ (n : Nat) (pc : Nat) (r0 : Nat) (x1 : Int32) (x2 : Int32) (x3 : Int32) (x4 : Int32) (x5 : Int32) (s0 : Int32) (M : ao_M) (ρ : ao_H), Rx B1 B2 ρ → ∀ z, fX12_mayEnd n pc r0 x1 x2 x3 x4 x5 s0 M ρ = some z → Rx B1 B2 z.2.2 := by
  intro n
  induction n with
  | zero => intros; exact absurd (by assumption) (by simp [fX12_mayEnd.eq_1])
  | succ n ih =>
    intro pc r0 x1 x2 x3 x4 x5 s0 M ρ hI
    rw [fX12_mayEnd.eq_2]
    repeat' (with_reducible (first | exact f_none | refine f_ite (fun hc => ?_) (fun hc => ?_) | refine f_letT (fun M' => ?_) | refine ih _ _ _ _ _ _ _ _ _ _ (by assumption) | refine f_bind (rw_gX12_wins (by assumption)) (fun y hy => ?_) | refine f_bind (rw_gX12_goesOn (by assumption)) (fun y hy => ?_)  | refine f_bindT (fun j => ?_) | exact f_some (by assumption)))
set_option maxRecDepth 100000 in
set_option maxHeartbeats 4000000 in
theorem rw_gX12_mayEnd {n : Nat} {r0 : Nat} {x1 : Int32} {M : ao_M} {ρ : ao_H} (hI : Rx B1 B2 ρ) : ∀ z, gX12_mayEnd n r0 x1 M ρ = some z → Rx B1 B2 z.2.2 := by
  unfold gX12_mayEnd
  exact rw_fX12_mayEnd _ _ _ _ _ _ _ _ _ _ _ hI
set_option maxRecDepth 100000 in
set_option maxHeartbeats 4000000 in
theorem rw_fX12_done : ∀ (n : Nat) (pc : Nat) (r0 : Nat) (x1 : Int32) (x2 : Int32) (x3 : Int32) (x4 : Int32) (s0 : Int32) (s1 : Int32) (q2 : Nat) (M : ao_M) (ρ : ao_H), Rx B1 B2 ρ → ∀ z, fX12_done n pc r0 x1 x2 x3 x4 s0 s1 q2 M ρ = some z → Rx B1 B2 z.2 := by
  intro n
  induction n with
  | zero => intros; exact absurd (by assumption) (by simp [fX12_done.eq_1])
  | succ n ih =>
    intro pc r0 x1 x2 x3 x4 s0 s1 q2 M ρ hI
    rw [fX12_done.eq_2]
    repeat' (with_reducible (first | exact f_none | refine f_ite (fun hc => ?_) (fun hc => ?_) | refine f_letT (fun M' => ?_) | refine ih _ _ _ _ _ _ _ _ _ _ _ (by assumption) | refine f_bind (rw_gX12_free (by assumption)) (fun y hy => ?_) | refine f_bind (rw_gX12_remember (by assumption)) (fun y hy => ?_)  | refine f_bindT (fun j => ?_) | exact f_some (by assumption)))
set_option maxRecDepth 100000 in
set_option maxHeartbeats 4000000 in
theorem rw_gX12_done {n : Nat} {r0 : Nat} {x1 : Int32} {M : ao_M} {ρ : ao_H} (hI : Rx B1 B2 ρ) : ∀ z, gX12_done n r0 x1 M ρ = some z → Rx B1 B2 z.2 := by
  unfold gX12_done
  exact rw_fX12_done _ _ _ _ _ _ _ _ _ _ _ _ hI
set_option maxRecDepth 100000 in
set_option maxHeartbeats 4000000 in
theorem rw_fX12_endBlock : ∀ (n : Nat) (pc : Nat) (r0 : Nat) (x1 : Int32) (x2 : Int32) (s0 : Int32) (M : ao_M) (ρ : ao_H), Rx B1 B2 ρ → ∀ z, fX12_endBlock n pc r0 x1 x2 s0 M ρ = some z → Rx B1 B2 z.2.2 := by
  intro n
  induction n with
  | zero => intros; exact absurd (by assumption) (by simp [fX12_endBlock.eq_1])
  | succ n ih =>
    intro pc r0 x1 x2 s0 M ρ hI
    rw [fX12_endBlock.eq_2]
    repeat' (with_reducible (first | exact f_none | refine f_ite (fun hc => ?_) (fun hc => ?_) | refine f_letT (fun M' => ?_) | refine ih _ _ _ _ _ _ _ (by assumption) | refine f_bind (rw_gX12_mayEnd (by assumption)) (fun y hy => ?_) | refine f_bind (rw_gX12_done (by assumption)) (fun y hy => ?_)  | refine f_bindT (fun j => ?_) | exact f_some (by assumption)))
set_option maxRecDepth 100000 in
set_option maxHeartbeats 4000000 in
theorem rw_gX12_endBlock {n : Nat} {r0 : Nat} {x1 : Int32} {M : ao_M} {ρ : ao_H} (hI : Rx B1 B2 ρ) : ∀ z, gX12_endBlock n r0 x1 M ρ = some z → Rx B1 B2 z.2.2 := by
  unfold gX12_endBlock
  exact rw_fX12_endBlock _ _ _ _ _ _ _ _ hI
set_option maxRecDepth 100000 in
set_option maxHeartbeats 4000000 in
theorem rw_fX12_retry : ∀ (n : Nat) (pc : Nat) (r0 : Nat) (x1 : Int32) (x2 : Int32) (x3 : Int32) (s0 : Int32) (s1 : Int32) (q2 : Nat) (M : ao_M) (ρ : ao_H), Rx B1 B2 ρ → ∀ z, fX12_retry n pc r0 x1 x2 x3 s0 s1 q2 M ρ = some z → Rx B1 B2 z.2.2 := by
  intro n
  induction n with
  | zero => intros; exact absurd (by assumption) (by simp [fX12_retry.eq_1])
  | succ n ih =>
    intro pc r0 x1 x2 x3 s0 s1 q2 M ρ hI
    rw [fX12_retry.eq_2]
    repeat' (with_reducible (first | exact f_none | refine f_ite (fun hc => ?_) (fun hc => ?_) | refine f_letT (fun M' => ?_) | refine ih _ _ _ _ _ _ _ _ _ _ (by assumption) | refine f_bind (rw_gX12_free (by assumption)) (fun y hy => ?_)  | refine f_bindT (fun j => ?_) | exact f_some (by assumption)))
set_option maxRecDepth 100000 in
set_option maxHeartbeats 4000000 in
theorem rw_gX12_retry {n : Nat} {r0 : Nat} {x1 : Int32} {M : ao_M} {ρ : ao_H} (hI : Rx B1 B2 ρ) : ∀ z, gX12_retry n r0 x1 M ρ = some z → Rx B1 B2 z.2.2 := by
  unfold gX12_retry
  exact rw_fX12_retry _ _ _ _ _ _ _ _ _ _ _ hI
set_option maxRecDepth 100000 in
set_option maxHeartbeats 4000000 in
theorem rw_fX12_leave : ∀ (n : Nat) (pc : Nat) (r0 : Nat) (x1 : Int32) (M : ao_M) (ρ : ao_H), Rx B1 B2 ρ → ∀ z, fX12_leave n pc r0 x1 M ρ = some z → Rx B1 B2 z.2 := by
  intro n
  induction n with
  | zero => intros; exact absurd (by assumption) (by simp [fX12_leave.eq_1])
  | succ n ih =>
    intro pc r0 x1 M ρ hI
    rw [fX12_leave.eq_2]
    repeat' (with_reducible (first | exact f_none | refine f_ite (fun hc => ?_) (fun hc => ?_) | refine f_letT (fun M' => ?_) | refine ih _ _ _ _ _ (by assumption) | refine f_bind (rw_gX12_free (by assumption)) (fun y hy => ?_)  | refine f_bindT (fun j => ?_) | exact f_some (by assumption)))
set_option maxRecDepth 100000 in
set_option maxHeartbeats 4000000 in
theorem rw_gX12_leave {n : Nat} {r0 : Nat} {x1 : Int32} {M : ao_M} {ρ : ao_H} (hI : Rx B1 B2 ρ) : ∀ z, gX12_leave n r0 x1 M ρ = some z → Rx B1 B2 z.2 := by
  unfold gX12_leave
  exact rw_fX12_leave _ _ _ _ _ _ hI
set_option maxRecDepth 100000 in
set_option maxHeartbeats 4000000 in
theorem rw_fX12_quit : ∀ (n : Nat) (pc : Nat) (r0 : Nat) (x1 : Int32) (x2 : Int32) (x3 : Int32) (M : ao_M) (ρ : ao_H), Rx B1 B2 ρ → ∀ z, fX12_quit n pc r0 x1 x2 x3 M ρ = some z → Rx B1 B2 z.2.2 := by
  intro n
  induction n with
  | zero => intros; exact absurd (by assumption) (by simp [fX12_quit.eq_1])
  | succ n ih =>
    intro pc r0 x1 x2 x3 M ρ hI
    rw [fX12_quit.eq_2]
    repeat' (with_reducible (first | exact f_none | refine f_ite (fun hc => ?_) (fun hc => ?_) | refine f_letT (fun M' => ?_) | refine ih _ _ _ _ _ _ _ (by assumption) | refine f_bind (rw_gX12_leave (by assumption)) (fun y hy => ?_)  | refine f_bindT (fun j => ?_) | exact f_some (by assumption)))
set_option maxRecDepth 100000 in
set_option maxHeartbeats 4000000 in
theorem rw_gX12_quit {n : Nat} {r0 : Nat} {x1 : Int32} {M : ao_M} {ρ : ao_H} (hI : Rx B1 B2 ρ) : ∀ z, gX12_quit n r0 x1 M ρ = some z → Rx B1 B2 z.2.2 := by
  unfold gX12_quit
  exact rw_fX12_quit _ _ _ _ _ _ _ _ hI
set_option maxRecDepth 100000 in
set_option maxHeartbeats 4000000 in
theorem rw_fX12_fail : ∀ (n : Nat) (pc : Nat) (r0 : Nat) (x1 : Int32) (x2 : Int32) (x3 : Int32) (x4 : Int32) (s0 : Int32) (M : ao_M) (ρ : ao_H), Rx B1 B2 ρ → ∀ z, fX12_fail n pc r0 x1 x2 x3 x4 s0 M ρ = some z → Rx B1 B2 z.2.2 := by
  intro n
  induction n with
  | zero => intros; exact absurd (by assumption) (by simp [fX12_fail.eq_1])
  | succ n ih =>
    intro pc r0 x1 x2 x3 x4 s0 M ρ hI
    rw [fX12_fail.eq_2]
    repeat' (with_reducible (first | exact f_none | refine f_ite (fun hc => ?_) (fun hc => ?_) | refine f_letT (fun M' => ?_) | refine ih _ _ _ _ _ _ _ _ _ (by assumption) | refine f_bind (rw_gX12_leave (by assumption)) (fun y hy => ?_)  | refine f_bindT (fun j => ?_) | exact f_some (by assumption)))
set_option maxRecDepth 100000 in
set_option maxHeartbeats 4000000 in
theorem rw_gX12_fail {n : Nat} {r0 : Nat} {x1 : Int32} {x2 : Int32} {M : ao_M} {ρ : ao_H} (hI : Rx B1 B2 ρ) : ∀ z, gX12_fail n r0 x1 x2 M ρ = some z → Rx B1 B2 z.2.2 := by
  unfold gX12_fail
  exact rw_fX12_fail _ _ _ _ _ _ _ _ _ _ hI
set_option maxRecDepth 100000 in
set_option maxHeartbeats 4000000 in
theorem rw_fX12_step : ∀ (n : Nat) (pc : Nat) (r0 : Nat) (x1 : Int32) (x2 : Int32) (x3 : Int32) (x4 : Int32) (x5 : Int32) (x6 : Int32) (s0 : Int32) (s1 : Int32) (q2 : Nat) (M : ao_M) (ρ : ao_H), Rx B1 B2 ρ → ∀ z, fX12_step n pc r0 x1 x2 x3 x4 x5 x6 s0 s1 q2 M ρ = some z → Rx B1 B2 z.2.2 := by
  intro n
  induction n with
  | zero => intros; exact absurd (by assumption) (by simp [fX12_step.eq_1])
  | succ n ih =>
    intro pc r0 x1 x2 x3 x4 x5 x6 s0 s1 q2 M ρ hI
    rw [fX12_step.eq_2]
    repeat' (with_reducible (first | exact f_none | refine f_ite (fun hc => ?_) (fun hc => ?_) | refine f_letT (fun M' => ?_) | refine ih _ _ _ _ _ _ _ _ _ _ _ _ _ (by assumption) | refine f_bind (rw_gX12_doLook (by assumption)) (fun y hy => ?_) | refine f_bind (rw_gX12_doWrite (by assumption)) (fun y hy => ?_) | refine f_bind (rw_gX12_endBlock (by assumption)) (fun y hy => ?_) | refine f_bind (rw_gX12_retry (by assumption)) (fun y hy => ?_) | refine f_bind (rw_gX12_quit (by assumption)) (fun y hy => ?_) | refine f_bind (rw_gX12_fail (by assumption)) (fun y hy => ?_)  | refine f_bindT (fun j => ?_) | exact f_some (by assumption)))
set_option maxRecDepth 100000 in
set_option maxHeartbeats 4000000 in
theorem rw_gX12_step {n : Nat} {r0 : Nat} {x1 : Int32} {M : ao_M} {ρ : ao_H} (hI : Rx B1 B2 ρ) : ∀ z, gX12_step n r0 x1 M ρ = some z → Rx B1 B2 z.2.2 := by
  unfold gX12_step
  exact rw_fX12_step _ _ _ _ _ _ _ _ _ _ _ _ _ _ hI
set_option maxRecDepth 100000 in
set_option maxHeartbeats 4000000 in
theorem rw_fX12_takeTurn : ∀ (n : Nat) (pc : Nat) (r0 : Nat) (x1 : Int32) (x2 : Int32) (s0 : Int32) (M : ao_M) (ρ : ao_H), Rx B1 B2 ρ → ∀ z, fX12_takeTurn n pc r0 x1 x2 s0 M ρ = some z → Rx B1 B2 z.2.2 := by
  intro n
  induction n with
  | zero => intros; exact absurd (by assumption) (by simp [fX12_takeTurn.eq_1])
  | succ n ih =>
    intro pc r0 x1 x2 s0 M ρ hI
    rw [fX12_takeTurn.eq_2]
    repeat' (with_reducible (first | exact f_none | refine f_ite (fun hc => ?_) (fun hc => ?_) | refine f_letT (fun M' => ?_) | refine ih _ _ _ _ _ _ _ (by assumption) | refine f_bind (rw_gX12_restart (by assumption)) (fun y hy => ?_) | refine f_bind (rw_gX12_step (by assumption)) (fun y hy => ?_)  | refine f_bindT (fun j => ?_) | exact f_some (by assumption)))
set_option maxRecDepth 100000 in
set_option maxHeartbeats 4000000 in
theorem rw_gX12_takeTurn {n : Nat} {r0 : Nat} {x1 : Int32} {M : ao_M} {ρ : ao_H} (hI : Rx B1 B2 ρ) : ∀ z, gX12_takeTurn n r0 x1 M ρ = some z → Rx B1 B2 z.2.2 := by
  unfold gX12_takeTurn
  exact rw_fX12_takeTurn _ _ _ _ _ _ _ _ hI
end Rd
