set_option linter.unusedSimpArgs false
set_option linter.unusedVariables false
/-! ===== what is of a thread alone ===== -/
/-- how many of an array's places each thread has -/
def wd (a : Nat) : Nat := if a = 550 then 18000 else if a = 553 then 26 else if a = 554 then 64 else if a = 575 ∨ 577 ≤ a ∧ a ≤ 582 then 312 else if a = 583 then 2400 else if 565 ≤ a ∧ a ≤ 574 ∨ a = 576 ∨ a = 584 then 12 else 1
/-- only places and thread t change -/
def FCt (t : Nat) (C : ao_M) (ρ : ao_H) (C' : ao_M) (ρ' : ao_H) : Prop := HxC C ρ C' ρ' ∧ ∀ x i, (x < 13 ∨ x = 17 ∨ 18 < x) → ¬ (92 + 71 * t ≤ x ∧ x < 92 + 71 * t + 71) → ¬ PAc ρ x → (∀ z, ρ.2.2.2.1 = some z → x < z) → C' x i = C x i
def FDt (t : Nat) (D : ao_M) (σ : ao_H) (D' : ao_M) (σ' : ao_H) : Prop := HxD σ σ' ∧ ∀ x i, ¬ (x = 537 ∧ (i = 25 ∨ i = 26)) → (x < 542 ∨ x = 545 ∨ 546 < x) → ¬ (550 ≤ x ∧ x ≤ 584 ∧ t * wd x ≤ i ∧ i < (t + 1) * wd x) → ¬ PAd σ x → (∀ z, σ.2.2.2.1 = some z → x < z) → D' x i = D x i
/-- cells of what the class took back -/
theorem cTB_n {e : Bool} {t k m a i : Nat} {C : ao_M} (h : a ≠ 14) (h6 : i ≠ 6 ∨ a < 92 + 71 * t + 8 + 6 * k ∨ 92 + 71 * t + 8 + 6 * (k + m) ≤ a ∨ (a - (92 + 71 * t + 8)) % 6 ≠ 0) (hr : a ≠ 92 + 71 * t + 6) (hR : a ≠ 92 + 71 * t ∨ i ≠ 13 ∧ i ≠ 11 ∧ i ≠ 5) : cTB e t k m C a i = C a i := by
  unfold cTB
  rw [if_neg (by omega), if_neg (by omega), if_neg (by omega), if_neg (by omega), if_neg (by omega), if_neg (by omega)]
theorem cTB_14 {t k m i : Nat} {C : ao_M} {e : Bool} (hi : i < 26) : cTB e t k m C 14 i = if e = true then gbv (mkC C t) (wvC C t) (C 14) k m i else C 14 i := by
  unfold cTB
  by_cases he : e = true
  · rw [if_pos ⟨rfl, hi, he⟩, if_pos he]
  · rw [if_neg (fun x => he x.2.2), if_neg (by omega), if_neg (by omega), if_neg (by omega), if_neg (by omega), if_neg (by omega), if_neg he]
theorem cTB_6 {e : Bool} {t k m j : Nat} {C : ao_M} (h1 : k ≤ j) (h2 : j < k + m) : cTB e t k m C (92 + 71 * t + 8 + 6 * j) 6 = 0 := by
  unfold cTB
  rw [if_neg (by omega), if_pos (by omega)]
theorem cTB_g {e : Bool} {t k m i : Nat} {C : ao_M} (hi : i < 26) : cTB e t k m C (92 + 71 * t + 6) i = C (92 + 71 * t + 8 + 6 * k + 5) i := by
  unfold cTB
  rw [if_neg (by omega), if_neg (by omega), if_pos (by omega)]
theorem cTB_a {e : Bool} {t k m : Nat} {C : ao_M} : cTB e t k m C (92 + 71 * t) 13 = C (92 + 71 * t + 8 + 6 * k) 10 ∧ cTB e t k m C (92 + 71 * t) 11 = C (92 + 71 * t + 8 + 6 * k) 11 ∧ cTB e t k m C (92 + 71 * t) 5 = 0 := by
  unfold cTB
  refine ⟨?_, ?_, ?_⟩
  · rw [if_neg (by omega), if_neg (by omega), if_neg (by omega), if_pos (by omega)]
  · rw [if_neg (by omega), if_neg (by omega), if_neg (by omega), if_neg (by omega), if_pos (by omega)]
  · rw [if_neg (by omega), if_neg (by omega), if_neg (by omega), if_neg (by omega), if_neg (by omega), if_pos (by omega)]
/-- cells of what the reference took back -/
theorem dTB_n {e : Bool} {t l m a i : Nat} {D : ao_M} (h : a ≠ 542 ∧ a ≠ 555 ∧ a ≠ 553) (h8 : a ≠ 578 ∨ i < (t * 12 + l) * 26 ∨ (t * 12 + (l + m)) * 26 ≤ i) (h4 : a ≠ 584 ∨ i < t * 12 + l ∨ t * 12 + (l + m) ≤ i) : dTB e t l m D a i = D a i := by
  unfold dTB
  rw [if_neg (by omega), if_neg (by omega), if_neg (by omega), if_neg (by omega), if_neg (by omega)]
theorem dTB_42 {t k m i : Nat} {D : ao_M} {e : Bool} (hi : i < 26) : dTB e t k m D 542 i = if e = true then gbv (mkD D t) (wvD D t) (D 542) k m i else D 542 i := by
  unfold dTB
  by_cases he : e = true
  · rw [if_pos ⟨rfl, hi, he⟩, if_pos he]
  · rw [if_neg (fun x => he x.2.2), if_neg (by omega), if_neg (by omega), if_neg (by omega), if_neg (by omega), if_neg he]
theorem dTB_78 {e : Bool} {t k m j p : Nat} {D : ao_M} (h1 : k ≤ j) (h2 : j < k + m) (hp : p < 26) : dTB e t k m D 578 ((t * 12 + j) * 26 + p) = 0 := by
  unfold dTB
  rw [if_neg (by omega), if_pos (by omega)]
theorem dTB_53 {e : Bool} {t k m i : Nat} {D : ao_M} (hi : i < 26) (hm : 0 < m) : dTB e t k m D 553 (t * 26 + i) = D 575 ((t * 12 + k) * 26 + i) := by
  unfold dTB
  rw [if_neg (by omega), if_neg (by omega), if_pos (by omega), show t * 26 + i - t * 26 = i by omega]
theorem dTB_84 {e : Bool} {t k m j : Nat} {D : ao_M} (h1 : k ≤ j) (h2 : j < k + m) : dTB e t k m D 584 (t * 12 + j) = 0 := by
  unfold dTB
  rw [if_neg (by omega), if_neg (by omega), if_neg (by omega), if_pos (by omega)]
theorem dTB_55 {e : Bool} {t k m : Nat} {D : ao_M} : dTB e t k m D 555 t = 0 := by
  unfold dTB
  rw [if_neg (by omega), if_neg (by omega), if_neg (by omega), if_neg (by omega), if_pos (by omega)]
theorem dTB_v {e : Bool} {t k m a i : Nat} {D : ao_M} (ha : a = 542 ∧ 26 ≤ i ∨ a = 555 ∧ i ≠ t ∨ a = 553 ∧ (i < t * 26 ∨ t * 26 + 26 ≤ i)) : dTB e t k m D a i = D a i := by
  unfold dTB
  rw [if_neg (by omega), if_neg (by omega), if_neg (by omega), if_neg (by omega), if_neg (by omega)]
/-- masks and flags agree -/
theorem Wr_mk {C D : ao_M} {t j p : Nat} (h : Wr C D t j) (hp : p < 26) : mkC C t j p = mkD D t j p ∧ (mkD D t j p = true → wvC C t j p = wvD D t j p) := by
  obtain ⟨a, b⟩ := h.2 p hp
  unfold mkC mkD wvC wvD
  by_cases e : bt (C (92 + 71 * t + 8 + 6 * j) 6) p = true
  · rw [if_pos e] at a
    rw [a, e]
    exact ⟨by decide, fun _ => b e⟩
  · have e' : bt (C (92 + 71 * t + 8 + 6 * j) 6) p = false := by simpa using e
    rw [if_neg e] at a
    rw [a, e']
    exact ⟨by decide, fun x => absurd x (by decide)⟩
/-- places, when levels were taken back on both sides -/
theorem Rpl_tb {k kp t m : Nat} {C D : ao_M} {ρ σ : ao_H} {e : Bool} (ht : t < 6) (hk : k + m ≤ 10) (r : Rpl kp C ρ D σ) (hw : ∀ j, k ≤ j → j < k + m → Wr C D t j) {D' : ao_M} (hD' : ∀ a i, a ≠ 577 → D' a i = dTB e t k m D a i) (h577 : ∀ i, ∃ x, D' 577 i = x) : Rpl kp (cTB e t k m C) ρ D' σ := by
  obtain ⟨f, g, h, pc, pd, ch, ev, ec⟩ := r
  refine ⟨f, g, h, PLc_mv pc ?_ ?_ ?_, PLd_mv pd ?_ ?_, ch, ?_, ?_⟩
  · exact cTB_n (by omega) (by omega) (by omega) (by omega)
  · exact cTB_n (by omega) (by omega) (by omega) (by omega)
  · intro x hx
    funext i
    exact cTB_n (by omega) (by omega) (by omega) (by omega)
  · rw [hD' _ _ (by omega)]
    exact dTB_n (by omega) (by omega) (by omega)
  · intro x hx
    funext i
    rw [hD' _ _ (by omega)]
    exact dTB_n (by omega) (by omega) (by omega)
  · intro p hp
    obtain ⟨a1, a2, a3, a4, a5, a6, a7⟩ := ev p hp
    have n : ∀ a, a = 15 ∨ a = 16 ∨ a = 17 ∨ a = 18 → cTB e t k m C a p = C a p := fun a h => cTB_n (by omega) (by omega) (by omega) (by omega)
    have n' : ∀ a, a = 543 ∨ a = 544 ∨ a = 545 ∨ a = 546 → D' a p = D a p := fun a h => by rw [hD' _ _ (by omega)]; exact dTB_n (by omega) (by omega) (by omega)
    rw [n 15 (by omega), n 16 (by omega), n 17 (by omega), n 18 (by omega), n' 543 (by omega), n' 544 (by omega), n' 545 (by omega), n' 546 (by omega)]
    refine ⟨?_, a2, a3, a4, a5, a6, a7⟩
    rw [hD' _ _ (by omega), cTB_14 hp, dTB_42 hp]
    by_cases he : e = true
    · rw [if_pos he, if_pos he]
      exact gbv_congr m k (fun j h1 h2 => Wr_mk (hw j h1 h2) hp) a1
    · rw [if_neg he, if_neg he]
      exact a1
  · rw [cTB_n (by omega) (by omega) (by omega) (by omega), hD' _ _ (by omega), dTB_n (by omega) (by omega) (by omega)]
    exact ec
theorem Rpl_cell {k kp : Nat} {C C' D D' : ao_M} {ρ σ : ao_H} (r : Rpl kp C ρ D σ) (hc : ∀ x i, (x < 19 ∧ 13 ≤ x ∨ 19 ≤ x ∧ x ≤ 21 ∨ 599 ≤ x) → C' x i = C x i) (hd : ∀ x i, (x = 537 ∧ (i = 25 ∨ i = 26) ∨ 542 ≤ x ∧ x ≤ 549 ∨ 599 ≤ x) → D' x i = D x i) : Rpl kp C' ρ D' σ := by
  have r0 := r
  obtain ⟨f, g, h, pc, pd, ch, ev, ec⟩ := r
  refine Rpl_fr r0 (fun x i hx => hc x i ?_) (fun x i hx => hd x i ?_)
  · by_cases q : (x < 19 ∨ 21 < x) ∧ x < 599
    · rcases hx with e | e | e | e | e | e | e
      · omega
      · omega
      · omega
      · omega
      · omega
      · omega
      · exact absurd e (PLc_n pc q)
    · omega
  · by_cases q : (x < 547 ∨ 549 < x) ∧ x < 599
    · rcases hx with e | e | e | e | e | e | e
      · omega
      · omega
      · omega
      · omega
      · omega
      · omega
      · exact absurd e (PLd_n pd q)
    · omega
