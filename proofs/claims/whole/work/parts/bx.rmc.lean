set_option linter.unusedSimpArgs false
set_option linter.unusedVariables false
/-! ===== what a turn keeps on the class's side: room, and the spans of records (by wip/whole/pure/genrm.py) ===== -/
/-- what is not yet made leads nowhere, and nothing leads to it -/
def Kz (ρ : ao_H) : Prop := ∀ w, ρ.2.2.2.1 = some w → ∀ x k, (w ≤ x → ρ.1 x k = none) ∧ ∀ j, ρ.1 x k = some j → j < w
theorem Kz_nw {ρ : ao_H} {n kd len sl : Nat} (h : Kz ρ) (hz : ρ.2.2.2.1 = some n) : Kz (ao_nw ρ n kd len sl) := by
  intro w hw x k
  have hw' : n + 1 = w := Option.some.inj hw
  by_cases q : x = n
  · subst q
    have e : (ao_nw ρ x kd len sl).1 x k = none := by simp [ao_nw]
    rw [e]
    exact ⟨fun _ => rfl, fun j hj => nomatch hj⟩
  · rw [nw_F q]
    obtain ⟨h1, h2⟩ := h n hz x k
    exact ⟨fun hx => h1 (by omega), fun j hj => by have := h2 j hj; omega⟩
theorem Kz_r {ρ : ao_H} {w i c j : Nat} (h : Kz ρ) (hz : ρ.2.2.2.1 = some w) (hi : i < w) (hj : j < w) : Kz (ao_r ρ i c (some j)) := by
  intro w' hw x k
  have hw1 : ρ.2.2.2.1 = some w' := hw
  have hw2 : w = w' := by rw [hz] at hw1; exact Option.some.inj hw1
  subst hw2
  obtain ⟨h1, h2⟩ := h w hz x k
  by_cases q : x = i ∧ k = c
  · obtain ⟨rfl, rfl⟩ := q
    rw [r_Fe]
    exact ⟨fun hx => by omega, fun j' hj' => by cases hj'; exact hj⟩
  · have e : (ao_r ρ i c (some j)).1 x k = ρ.1 x k := by
      show (if x = i ∧ k = c then some j else ρ.1 x k) = ρ.1 x k
      rw [if_neg q]
    rw [e]
    exact ⟨h1, h2⟩
theorem Kz_th {ρ : ao_H} (h : Kz ρ) : Kz (ao_th ρ) := by
  intro w hw x k
  have hw1 : ρ.2.2.2.1.map (· + 1) = some w := hw
  cases e : ρ.2.2.2.1 with
  | none => rw [e] at hw1; exact nomatch hw1
  | some z =>
    rw [e] at hw1
    have hw2 : z + 1 = w := Option.some.inj hw1
    obtain ⟨h1, h2⟩ := h z e x k
    exact ⟨fun hx => h1 (by omega), fun j hj => by have := h2 j hj; omega⟩
def Ku (ρ : ao_H) : Prop := ∀ x, (ρ.2.1 x = 12 → x = 12) ∧ (ρ.2.1 x = 15 → x = 13) ∧ (ρ.2.1 x = 16 → x = 25) ∧ (ρ.2.1 x = 18 → x = 22) ∧ (ρ.2.1 x = 4 → x = 91) ∧ (ρ.2.1 x = 17 → ∃ t, t < 6 ∧ x = 92 + 71 * t) ∧ (ρ.2.1 x = 13 → ∃ t j, t < 6 ∧ j < 10 ∧ x = 92 + 71 * t + 8 + 6 * j) ∧ (ρ.2.1 x = 5 → ∃ t, t < 6 ∧ x = 92 + 71 * t + 7) ∧ (ρ.2.1 x = 6 → x = 31 ∨ x = 46 ∨ x = 61 ∨ x = 76 ∨ x = 520) ∧ (ρ.2.1 x = 22 → x = 537) ∧ Kz ρ
theorem Ku_z {ρ : ao_H} (h : Ku ρ) : Kz ρ := by
  obtain ⟨-, -, -, -, -, -, -, -, -, -, a⟩ := h 0
  exact a
theorem Ku_mk {ρ ρ' : ao_H} (h : Ku ρ) (hk : ∀ x, ρ'.2.1 x = ρ.2.1 x ∨ ρ'.2.1 x = 11 ∨ ρ'.2.1 x = 0) (hn : Kz ρ') : Ku ρ' := by
  intro x
  obtain ⟨a1, a2, a3, a4, a5, a6, a7, a8, a9, a10, -⟩ := h x
  rcases hk x with e | e | e
  · rw [e]; exact ⟨a1, a2, a3, a4, a5, a6, a7, a8, a9, a10, hn⟩
  · rw [e]
    exact ⟨fun q => absurd q (by decide), fun q => absurd q (by decide), fun q => absurd q (by decide), fun q => absurd q (by decide), fun q => absurd q (by decide), fun q => absurd q (by decide), fun q => absurd q (by decide), fun q => absurd q (by decide), fun q => absurd q (by decide), fun q => absurd q (by decide), hn⟩
  · rw [e]
    exact ⟨fun q => absurd q (by decide), fun q => absurd q (by decide), fun q => absurd q (by decide), fun q => absurd q (by decide), fun q => absurd q (by decide), fun q => absurd q (by decide), fun q => absurd q (by decide), fun q => absurd q (by decide), fun q => absurd q (by decide), fun q => absurd q (by decide), hn⟩
def bel (ρ : ao_H) (j : Nat) : Prop := 599 ≤ j ∧ ∀ w, ρ.2.2.2.1 = some w → j < w
def Hv (ρ : ao_H) : Prop := (ShA ρ ∧ ShB ρ ∧ ShG ρ) ∧ (∀ x, PAc ρ x → 19 ≤ x ∧ x ≤ 21 ∨ 599 ≤ x) ∧ (∃ z, ρ.2.2.2.1 = some z ∧ 599 ≤ z) ∧ Ku ρ
/-- what is told of memory: the room of a code, the room of pasts, spans -/
def Mv (M : ao_M) (rm : Nat) : Prop := M 8 0 = 1000 ∧ M 13 9 = nI rm ∧ 64 ≤ rm ∧ rm ≤ 131072 ∧ (∀ t, t < 6 → M (92 + 71 * t) 16 ≤ M 12 6) ∧ ∀ i, i < 300 → M 29 i ≤ M 30 i
def Rv (B1 B2 e : Nat) (M : ao_M) (ρ : ao_H) : Prop := Hv ρ ∧ ∃ rm, Mv M rm ∧ ρ.2.2.2.2.1 + e ≤ B1 + rm ∧ ρ.2.2.2.2.2 + e * rm ≤ B2 + 6 * rm
/-- not an array of spans -/
def nj (r : Nat) : Prop := r ≠ 29 ∧ r ≠ 30
section Rm
variable {B1 B2 e : Nat} {M : ao_M} {ρ : ao_H}
theorem nj_k {r K : Nat} (hI : Rv B1 B2 e M ρ) (hk : ρ.2.1 r = K) (h : K ≠ 0) : nj r := by
  obtain ⟨⟨⟨hA, -⟩, -⟩, -⟩ := hI
  have h1 : ρ.2.1 29 = 0 := by simp only [hA]
  have h2 : ρ.2.1 30 = 0 := by simp only [hA]
  refine ⟨?_, ?_⟩ <;> rintro rfl <;> omega
def okt (K k : Nat) : Bool := [(12,0),(12,1),(12,2),(12,3),(13,0),(13,1),(13,2),(13,5),(13,7),(15,0),(15,1),(15,2),(15,3),(15,5),(15,6),(15,7),(15,8),(16,0),(16,1),(16,2),(16,5),(16,6),(16,7),(16,8),(17,4),(17,6),(17,7),(17,9),(17,10),(17,12),(18,0),(18,1)].contains (K, k)
theorem nj_t {r k j K : Nat} (hI : Rv B1 B2 e M ρ) (hk : ρ.2.1 r = K) (h : okt K k = true) (q : ρ.1 r k = some j) : nj j := by
  obtain ⟨⟨⟨hA, hB, hG⟩, hP, -, hu⟩, -⟩ := hI
  obtain ⟨u1, u2, u3, u4, u5, u6, u7, u8, u9, u10⟩ := hu r
  simp only [okt, List.contains_eq_mem, List.mem_cons, Prod.mk.injEq, List.not_mem_nil, or_false, decide_eq_true_eq] at h
  unfold nj
  have fin : ∀ x, some x = some j → (x ≠ 29 ∧ x ≠ 30) → j ≠ 29 ∧ j ≠ 30 := fun x h1 h2 => by cases h1; exact h2
  rcases h with ⟨rfl, rfl⟩ | ⟨rfl, rfl⟩ | ⟨rfl, rfl⟩ | ⟨rfl, rfl⟩ | h
  · obtain rfl := u1 hk; simp only [hA] at q; exact fin _ q (by omega)
  · obtain rfl := u1 hk; simp only [hA] at q; exact fin _ q (by omega)
  · obtain rfl := u1 hk; simp only [hA] at q; exact fin _ q (by omega)
  · obtain rfl := u1 hk; simp only [hA] at q; exact fin _ q (by omega)
  rcases h with ⟨rfl, rfl⟩ | ⟨rfl, rfl⟩ | ⟨rfl, rfl⟩ | ⟨rfl, rfl⟩ | ⟨rfl, rfl⟩ | h
  · obtain ⟨t, i, ht, hi, rfl⟩ := u7 hk; simp (disch := assumption) only [hB] at q; exact fin _ q (by omega)
  · obtain ⟨t, i, ht, hi, rfl⟩ := u7 hk; simp (disch := assumption) only [hB] at q; exact fin _ q (by omega)
  · obtain ⟨t, i, ht, hi, rfl⟩ := u7 hk; simp (disch := assumption) only [hB] at q; exact fin _ q (by omega)
  · obtain ⟨t, i, ht, hi, rfl⟩ := u7 hk; simp (disch := assumption) only [hB] at q; exact fin _ q (by omega)
  · obtain ⟨t, i, ht, hi, rfl⟩ := u7 hk; simp (disch := assumption) only [hB] at q; exact fin _ q (by omega)
  rcases h with ⟨rfl, rfl⟩ | ⟨rfl, rfl⟩ | ⟨rfl, rfl⟩ | ⟨rfl, rfl⟩ | ⟨rfl, rfl⟩ | ⟨rfl, rfl⟩ | ⟨rfl, rfl⟩ | ⟨rfl, rfl⟩ | h
  · obtain rfl := u2 hk; simp only [hA] at q; exact fin _ q (by omega)
  · obtain rfl := u2 hk; simp only [hA] at q; exact fin _ q (by omega)
  · obtain rfl := u2 hk; simp only [hA] at q; exact fin _ q (by omega)
  · obtain rfl := u2 hk; simp only [hA] at q; exact fin _ q (by omega)
  · obtain rfl := u2 hk; simp only [hA] at q; exact fin _ q (by omega)
  · obtain rfl := u2 hk; have := hP j (Or.inl q); omega
  · obtain rfl := u2 hk; have := hP j (Or.inr (Or.inl q)); omega
  · obtain rfl := u2 hk; have := hP j (Or.inr (Or.inr q)); omega
  rcases h with ⟨rfl, rfl⟩ | ⟨rfl, rfl⟩ | ⟨rfl, rfl⟩ | ⟨rfl, rfl⟩ | ⟨rfl, rfl⟩ | ⟨rfl, rfl⟩ | ⟨rfl, rfl⟩ | h
  · obtain rfl := u3 hk; simp only [hA] at q; exact fin _ q (by omega)
  · obtain rfl := u3 hk; simp only [hA] at q; exact fin _ q (by omega)
  · obtain rfl := u3 hk; simp only [hA] at q; exact fin _ q (by omega)
  · obtain rfl := u3 hk; simp only [hA] at q; exact fin _ q (by omega)
  · obtain rfl := u3 hk; simp only [hA] at q; exact fin _ q (by omega)
  · obtain rfl := u3 hk; simp only [hA] at q; exact fin _ q (by omega)
  · obtain rfl := u3 hk; simp only [hA] at q; exact fin _ q (by omega)
  rcases h with ⟨rfl, rfl⟩ | ⟨rfl, rfl⟩ | ⟨rfl, rfl⟩ | ⟨rfl, rfl⟩ | ⟨rfl, rfl⟩ | ⟨rfl, rfl⟩ | ⟨rfl, rfl⟩ | ⟨rfl, rfl⟩
  · obtain ⟨t, ht, rfl⟩ := u6 hk; simp (disch := assumption) only [hB] at q; exact fin _ q (by omega)
  · obtain ⟨t, ht, rfl⟩ := u6 hk; simp (disch := assumption) only [hB] at q; exact fin _ q (by omega)
  · obtain ⟨t, ht, rfl⟩ := u6 hk; simp (disch := assumption) only [hB] at q; exact fin _ q (by omega)
  · obtain ⟨t, ht, rfl⟩ := u6 hk; simp (disch := assumption) only [hB] at q; exact fin _ q (by omega)
  · obtain ⟨t, ht, rfl⟩ := u6 hk; simp (disch := assumption) only [hB] at q; exact fin _ q (by omega)
  · obtain ⟨t, ht, rfl⟩ := u6 hk; simp (disch := assumption) only [hB] at q; exact fin _ q (by omega)
  · obtain rfl := u4 hk; simp only [hA] at q; exact fin _ q (by omega)
  · obtain rfl := u4 hk; simp only [hA] at q; exact fin _ q (by omega)
theorem nj_a {r j K : Nat} {x : Int32} (hI : Rv B1 B2 e M ρ) (hk : ρ.2.1 r = K) (h : K = 4 ∨ K = 5 ∨ K = 6) (hg : ¬ (x < 0 ∨ ρ.2.2.1 r ≤ x.toNatClampNeg)) (q : ρ.1 r x.toNatClampNeg = some j) : nj j := by
  obtain ⟨⟨⟨hA, hB, hG⟩, hP, -, hu⟩, -⟩ := hI
  obtain ⟨u1, u2, u3, u4, u5, u6, u7, u8, u9, u10⟩ := hu r
  have hg2 : x.toNatClampNeg < ρ.2.2.1 r := by
    have := fun q => hg (Or.inr q)
    omega
  generalize x.toNatClampNeg = i at *
  clear hg
  unfold nj
  have fin : ∀ x, some x = some j → (x ≠ 29 ∧ x ≠ 30) → j ≠ 29 ∧ j ≠ 30 := fun x h1 h2 => by cases h1; exact h2
  rcases h with rfl | rfl | rfl
  · obtain rfl := u5 hk; simp only [hA] at hg2; simp (disch := assumption) only [hB] at q; exact fin _ q (by omega)
  · obtain ⟨t, ht, rfl⟩ := u8 hk; simp (disch := assumption) only [hB] at hg2; simp (disch := assumption) only [hB] at q; exact fin _ q (by omega)
  · rcases u9 hk with rfl | rfl | rfl | rfl | rfl <;> (simp only [hA] at hg2; simp (disch := assumption) only [hG] at q; exact fin _ q (by omega))
theorem Mv_u {rm r k : Nat} {x : Int32} (h : Mv M rm) (h1 : ¬ (r = 8 ∧ k = 0)) (h2 : ¬ (r = 13 ∧ k = 9)) (h3 : ¬ (k = 16 ∧ ∃ t, t < 6 ∧ r = 92 + 71 * t)) (h4 : ¬ (r = 12 ∧ k = 6)) (h5 : nj r) : Mv (ao_u M r k x) rm := by
  obtain ⟨a1, a2, a3, a4, a5, a6⟩ := h
  refine ⟨by rw [u_ne (by omega)]; exact a1, by rw [u_ne (by omega)]; exact a2, a3, a4, fun t ht => ?_, fun i hi => ?_⟩
  · rw [u_ne (show 92 + 71 * t ≠ r ∨ 16 ≠ k from ?_), u_ne (by omega)]
    · exact a5 t ht
    · by_cases e1 : 16 = k
      · exact Or.inl (fun e2 => h3 ⟨e1.symm, t, ht, e2.symm⟩)
      · exact Or.inr e1
  · rw [u_n1 (fun e => h5.1 e.symm), u_n1 (fun e => h5.2 e.symm)]; exact a6 i hi
theorem Rv_ua {r k : Nat} {x : Int32} (hI : Rv B1 B2 e M ρ) (hk : ρ.2.1 r = 0) (hn : nj r) : Rv B1 B2 e (ao_u M r k x) ρ := by
  obtain ⟨hH, rm, hM, hr⟩ := hI
  refine ⟨hH, rm, Mv_u hM ?_ ?_ ?_ ?_ hn, hr⟩
  · rintro ⟨rfl, -⟩; simp only [hH.1.1] at hk; omega
  · rintro ⟨rfl, -⟩; simp only [hH.1.1] at hk; omega
  · rintro ⟨-, t, ht, rfl⟩; simp (disch := assumption) only [hH.1.2.1] at hk; omega
  · rintro ⟨rfl, -⟩; simp only [hH.1.1] at hk; omega
def sto (K k : Nat) : Bool := !(K == 0) && !(K == 15 && k == 9) && !(K == 11 && k == 0) && !(K == 17 && k == 16) && !(K == 12 && k == 6)
theorem Rv_uf {r k K : Nat} {x : Int32} (hI : Rv B1 B2 e M ρ) (hk : ρ.2.1 r = K) (h : sto K k = true) : Rv B1 B2 e (ao_u M r k x) ρ := by
  have h0 : K ≠ 0 := by rintro rfl; simp [sto] at h
  have hn := nj_k hI hk h0
  obtain ⟨hH, rm, hM, hr⟩ := hI
  refine ⟨hH, rm, Mv_u hM ?_ ?_ ?_ ?_ hn, hr⟩
  · rintro ⟨rfl, rfl⟩; simp only [hH.1.1] at hk; subst hk; simp [sto] at h
  · rintro ⟨rfl, rfl⟩; simp only [hH.1.1] at hk; subst hk; simp [sto] at h
  · rintro ⟨rfl, t, ht, rfl⟩; simp (disch := assumption) only [hH.1.2.1] at hk; subst hk; simp [sto] at h
  · rintro ⟨rfl, rfl⟩; simp only [hH.1.1] at hk; subst hk; simp [sto] at h
theorem Rv_16 {r r0 : Nat} (hI : Rv B1 B2 e M ρ) (hk : ρ.2.1 r = 17) (h0 : ρ.2.1 r0 = 12) : Rv B1 B2 e (ao_u M r 16 (M r0 6)) ρ := by
  obtain ⟨hH, rm, ⟨a1, a2, a3, a4, a5, a6⟩, hr⟩ := hI
  obtain rfl := (hH.2.2.2 r0).1 h0
  obtain ⟨t, ht, rfl⟩ := (hH.2.2.2 r).2.2.2.2.2.1 hk
  refine ⟨hH, rm, ⟨by rw [u_ne (by omega)]; exact a1, by rw [u_ne (by omega)]; exact a2, a3, a4, fun u hu => ?_, fun i hi => ?_⟩, hr⟩
  · rw [u_ne (a := 12) (by omega)]
    by_cases q : u = t
    · subst q; rw [u_eq]; exact Int32.le_refl _
    · rw [u_ne (by omega)]; exact a5 u hu
  · rw [u_ne (by omega), u_ne (by omega)]; exact a6 i hi
theorem Rv_le {r r0 : Nat} (hI : Rv B1 B2 e M ρ) (hk : ρ.2.1 r = 17) (h0 : ρ.2.1 r0 = 12) : M r 16 ≤ M r0 6 := by
  obtain ⟨hH, rm, ⟨a1, a2, a3, a4, a5, a6⟩, hr⟩ := hI
  obtain rfl := (hH.2.2.2 r0).1 h0
  obtain ⟨t, ht, rfl⟩ := (hH.2.2.2 r).2.2.2.2.2.1 hk
  exact a5 t ht
theorem Mv_cp {rm i j sp dp n : Nat} (h : Mv M rm) (h1 : j ≠ 8 ∧ j ≠ 13 ∧ j ≠ 12) (h3 : ¬ ∃ t, t < 6 ∧ j = 92 + 71 * t) (h5 : nj j) : Mv (ao_cp M i j sp dp n) rm := by
  obtain ⟨a1, a2, a3, a4, a5, a6⟩ := h
  refine ⟨by rw [cp_n (by omega)]; exact a1, by rw [cp_n (by omega)]; exact a2, a3, a4, fun t ht => ?_, fun i hi => ?_⟩
  · rw [cp_n (fun e => h3 ⟨t, ht, e.symm⟩), cp_n (by omega)]; exact a5 t ht
  · rw [cp_n (fun e => h5.1 e.symm), cp_n (fun e => h5.2 e.symm)]; exact a6 i hi
theorem Rv_cp {i j sp dp n : Nat} (hI : Rv B1 B2 e M ρ) (hk : ρ.2.1 j = 0) (hn : nj j) : Rv B1 B2 e (ao_cp M i j sp dp n) ρ := by
  obtain ⟨hH, rm, hM, hr⟩ := hI
  refine ⟨hH, rm, Mv_cp hM ⟨?_, ?_, ?_⟩ ?_ hn, hr⟩
  · rintro rfl; simp only [hH.1.1] at hk; omega
  · rintro rfl; simp only [hH.1.1] at hk; omega
  · rintro rfl; simp only [hH.1.1] at hk; omega
  · rintro ⟨t, ht, rfl⟩; simp (disch := assumption) only [hH.1.2.1] at hk; omega
theorem r_letM {β : Type} {Q : β → Prop} {v : ao_M} {f : ao_M → Option β} (h : Rv B1 B2 e v ρ) (k : ∀ M', Rv B1 B2 e M' ρ → ∀ z, f M' = some z → Q z) : ∀ z, ao_let v f = some z → Q z := k v h
theorem r_bindF {β : Type} {r k K : Nat} {f : Nat → Option β} {Q : β → Prop} (hI : Rv B1 B2 e M ρ) (hk : ρ.2.1 r = K) (h : okt K k = true) (c : ∀ j, nj j → ∀ z, f j = some z → Q z) : ∀ z, (ρ.1 r k).bind f = some z → Q z := f_bind (P := fun j => nj j) (fun j q => nj_t hI hk h q) c
theorem r_bindA {β : Type} {r K : Nat} {x : Int32} {f : Nat → Option β} {Q : β → Prop} (hI : Rv B1 B2 e M ρ) (hk : ρ.2.1 r = K) (h : K = 4 ∨ K = 5 ∨ K = 6) (hg : ¬ (x < 0 ∨ ρ.2.2.1 r ≤ x.toNatClampNeg)) (c : ∀ j, nj j → ∀ z, f j = some z → Q z) : ∀ z, (ρ.1 r x.toNatClampNeg).bind f = some z → Q z := f_bind (P := fun j => nj j) (fun j q => nj_a hI hk h hg q) c
theorem r_bindN {β : Type} {r k : Nat} {f : Nat → Option β} {Q : β → Prop} (c : ∀ j, ∀ z, f j = some z → Q z) : ∀ z, (ρ.1 r k).bind f = some z → Q z := f_bind (P := fun _ => True) (fun _ _ => trivial) (fun j _ => c j)
/-- a new array -/
theorem Hv_nw {n len sl : Nat} (h : Hv ρ) (hz : ρ.2.2.2.1 = some n) : Hv (ao_nw ρ n 0 len sl) := by
  obtain ⟨⟨hA, hB, hG⟩, hP, ⟨z, z1, z2⟩, hu⟩ := h
  obtain rfl : z = n := by rw [z1] at hz; exact Option.some.inj hz
  refine ⟨⟨?_, ?_, ?_⟩, fun x hx => ?_, ⟨z + 1, rfl, by omega⟩, Ku_mk hu (fun x => ?_) (Kz_nw (Ku_z hu) z1)⟩
  · exact ShA_own (ρ := ρ) (fun x hx => nw_K (by omega)) (fun x hx => nw_L (by omega)) (fun x k hx _ => nw_F (by omega)) hA
  · exact ShB_own (ρ := ρ) (fun x hx => nw_K (by omega)) (fun x hx => nw_L (by omega)) (fun x k hx _ => nw_F (by omega)) hB
  · exact ShG_own (ρ := ρ) (fun x hx => nw_K (by omega)) (fun x hx => nw_L (by omega)) (fun x k hx _ => nw_F (by omega)) hG
  · refine hP x ?_
    unfold PAc at hx ⊢
    rw [nw_F (by omega), nw_F (by omega), nw_F (by omega)] at hx
    exact hx
  · by_cases q : x = z
    · subst q
      exact Or.inr (Or.inr nw_Ke)
    · exact Or.inl (nw_K q)
theorem Hv_r {k j : Nat} (h : Hv ρ) (hk : k = 6 ∨ k = 7 ∨ k = 8) (hj : bel ρ j) : Hv (ao_r ρ 13 k (some j)) := by
  obtain ⟨⟨hA, hB, hG⟩, hP, hz, hu⟩ := h
  have fr : ∀ x c, ¬ (x = 13 ∧ 6 ≤ c ∧ c ≤ 8) → (ao_r ρ 13 k (some j)).1 x c = ρ.1 x c := fun x c q => by
    show (if x = 13 ∧ c = k then some j else ρ.1 x c) = ρ.1 x c
    rw [if_neg (by omega)]
  have hn : Kz (ao_r ρ 13 k (some j)) := by
    obtain ⟨z, z1, z2⟩ := hz
    exact Kz_r (Ku_z hu) z1 (by omega) (hj.2 z z1)
  refine ⟨⟨?_, ?_, ?_⟩, fun x hx => ?_, hz, Ku_mk hu (fun x => Or.inl rfl) hn⟩
  · exact ShA_own (ρ := ρ) (fun x hx => rfl) (fun x hx => rfl) (fun x c hx q => fr x c (by omega)) hA
  · exact ShB_own (ρ := ρ) (fun x hx => rfl) (fun x hx => rfl) (fun x c hx q => fr x c (by omega)) hB
  · exact ShG_own (ρ := ρ) (fun x hx => rfl) (fun x hx => rfl) (fun x c hx q => fr x c (by omega)) hG
  · have key : ∀ c, 6 ≤ c → c ≤ 8 → (ao_r ρ 13 k (some j)).1 13 c = some x → 19 ≤ x ∧ x ≤ 21 ∨ 599 ≤ x := by
      intro c c1 c2 q
      by_cases qc : c = k
      · subst qc; rw [r_Fe] at q; cases q; exact Or.inr hj.1
      · rw [r_Fm qc] at q
        rcases (show c = 6 ∨ c = 7 ∨ c = 8 by omega) with rfl | rfl | rfl
        · exact hP x (Or.inl q)
        · exact hP x (Or.inr (Or.inl q))
        · exact hP x (Or.inr (Or.inr q))
    rcases hx with q | q | q
    · exact key 6 (by omega) (by omega) q
    · exact key 7 (by omega) (by omega) q
    · exact key 8 (by omega) (by omega) q
theorem rv_copyOf {n r0 : Nat} {x : Int32} (hI : Rv B1 B2 (e + 1) M ρ) (hx : x = M 13 9) : ∀ z, gJ7_copyOf_59c91 n r0 x M ρ = some z → Rv B1 B2 e z.2.1 z.2.2 ∧ bel z.2.2 z.1 := by
  have h17 : ∀ n q M ρ, Rv B1 B2 e M ρ → bel ρ q → ∀ z, fJ7_copyOf_59c91 n 17 r0 x q M ρ = some z → Rv B1 B2 e z.2.1 z.2.2 ∧ bel z.2.2 z.1 := by
    intro n q M ρ hI hq
    cases n with
    | zero => intro z h; rw [fJ7_copyOf_59c91.eq_1] at h; exact nomatch h
    | succ n =>
      rw [fJ7_copyOf_59c91.eq_2]
      simp only [Nat.reduceEqDiff, ↓reduceIte]
      refine f_ite (fun hc => ?_) (fun hc => f_none)
      refine f_ite (fun hd => ?_) (fun hc => f_none)
      refine f_ite (fun he => ?_) (fun hc => f_none)
      have hq9 := hq.1
      refine r_letM (Rv_cp hI hd ⟨by omega, by omega⟩) (fun M' hM' => ?_)
      exact f_some ⟨hM', hq⟩
  unfold gJ7_copyOf_59c91
  cases n with
  | zero => intro z h; rw [fJ7_copyOf_59c91.eq_1] at h; exact nomatch h
  | succ n =>
    rw [fJ7_copyOf_59c91.eq_2]
    simp only [↓reduceIte]
    refine f_ite (fun hc => ?_) (fun hc => f_none)
    refine f_ite (fun hc => f_none) (fun hc => ?_)
    refine f_bind (P := fun j => ρ.2.2.2.1 = some j) (fun j q => q) (fun j hj => ?_)
    refine f_ite (fun hc => ?_) (fun hc => f_none)
    obtain ⟨hH, rm, hM, h1, h2⟩ := hI
    obtain ⟨z, z1, z2⟩ := hH.2.2.1
    obtain rfl : z = j := by rw [z1] at hj; exact Option.some.inj hj
    have hxr : x.toNatClampNeg = rm := by
      rw [hx, hM.2.1]
      exact n_cl (by have := hM.2.2.2.1; omega)
    refine h17 n z _ _ ⟨Hv_nw hH z1, rm, ?_, ?_, ?_⟩ ⟨z2, fun w hw => by have : z + 1 = w := Option.some.inj hw; omega⟩
    · obtain ⟨a1, a2, a3, a4, a5, a6⟩ := hM
      refine ⟨by rw [zr_n (by omega)]; exact a1, by rw [zr_n (by omega)]; exact a2, a3, a4, fun t ht => ?_, fun i hi => ?_⟩
      · rw [zr_n (by omega), zr_n (by omega)]; exact a5 t ht
      · rw [zr_n (by omega), zr_n (by omega)]; exact a6 i hi
    · show ρ.2.2.2.2.1 + 1 + e ≤ _
      omega
    · show ρ.2.2.2.2.2 + x.toNatClampNeg + e * rm ≤ _
      rw [hxr]
      rw [Nat.add_mul, Nat.one_mul] at h2
      omega
theorem hKs {B1 B2 e e' : Nat} {M M' : ao_M} {ρ ρ' : ao_H} {r0 : Nat} (h : Rv B1 B2 e M ρ) (h' : Rv B1 B2 e' M' ρ') (hk : ρ.2.1 r0 = 15) : ρ'.2.1 r0 = 15 := by
  obtain rfl := (h.1.2.2.2 r0).2.1 hk
  have := h'.1.1.1
  simp only [this]
def eCh (pc : Nat) : Nat := if pc = 70 ∨ pc = 73 then 2 else if pc = 85 ∨ pc = 88 then 1 else 0
theorem rv_fX5_change : ∀ (n pc r0 : Nat) (x1 x2 : Int32) (q0 q1 : Nat) (M : ao_M) (ρ : ao_H), Rv B1 B2 (eCh pc) M ρ → (pc ≠ 0 → pc ≠ 103 → ρ.2.1 r0 = 15) → (pc = 70 ∨ pc = 85 ∨ pc = 100 → bel ρ q0) → ∀ z, fX5_change n pc r0 x1 x2 q0 q1 M ρ = some z → Rv B1 B2 0 z.1 z.2 := by
  intro n
  induction n with
  | zero => intros; exact absurd (by assumption) (by simp [fX5_change.eq_1])
  | succ n ih =>
    intro pc r0 x1 x2 q0 q1 M ρ hI hr hq
    rw [fX5_change.eq_2]
    refine f_ite (fun hp => ?_) (fun hp => ?_)
    · subst hp
      have hI0 : Rv B1 B2 0 M ρ := hI
      refine f_ite (fun hc => f_some hI0) (fun hc => ?_)
      refine f_ite (fun hc => ?_) (fun hc => f_some hI0)
      refine f_ite (fun hk => ?_) (fun hc => f_none)
      refine r_bindF hI0 hk (by decide) (fun j4 hj4 => ?_)
      refine f_ite (fun hk4 => ?_) (fun hc => f_none)
      refine f_ite (fun hc => ?_) (fun hc => f_none)
      refine r_letM (Rv_ua hI0 hk4 hj4) (fun M7 h7 => ?_)
      refine r_bindF h7 hk (by decide) (fun j8 hj8 => ?_)
      refine f_ite (fun hk8 => ?_) (fun hc => f_none)
      refine f_ite (fun hc => ?_) (fun hc => f_none)
      refine r_letM (Rv_ua h7 hk8 hj8) (fun M11 h11 => ?_)
      refine f_ite (fun hc => ih _ _ _ _ _ _ _ _ h11 (fun _ h => absurd rfl h) (fun h => by omega)) (fun hc => ?_)
      refine f_ite (fun hc => ih _ _ _ _ _ _ _ _ h11 (fun _ h => absurd rfl h) (fun h => by omega)) (fun hcap => ?_)
      have hg : Rv B1 B2 3 (ao_u M11 r0 9 (M11 r0 9 * 2)) ρ := by
        obtain ⟨hH, rm, ⟨a1, a2, a3, a4, a5, a6⟩, b1, b2⟩ := h11
        obtain rfl := (hH.2.2.2 r0).2.1 hk
        have hrm : rm < 65536 := by
          rw [a2] at hcap
          have e1 : ((65536 : Int32) ≤ nI rm) = (65536 ≤ rm) := n_lle (by omega) (by omega)
          rw [e1] at hcap
          omega
        refine ⟨hH, 2 * rm, ⟨by rw [u_ne (by omega)]; exact a1, ?_, by omega, by omega, fun t ht => ?_, fun i hi => ?_⟩, by omega, ?_⟩
        · rw [u_eq, a2]
          have : nI rm * 2 = nI (rm * 2) := n_mull
          rw [this, Nat.mul_comm]
        · rw [u_ne (by omega), u_ne (by omega)]; exact a5 t ht
        · rw [u_ne (by omega), u_ne (by omega)]; exact a6 i hi
        · omega
      refine r_letM hg (fun M14 h14 => ?_)
      refine r_bindN (fun j15 => ?_)
      refine f_bind (rv_copyOf h14 ?_) (fun y hy => ?_)
      · obtain rfl := (hI.1.2.2.2 r0).2.1 hk; rfl
      · exact ih _ _ _ _ _ _ _ _ hy.1 (fun _ _ => hKs hI hy.1 hk) (fun _ => hy.2)
    refine f_ite (fun hp => ?_) (fun hp => ?_)
    · subst hp
      refine f_ite (fun hk => ?_) (fun hc => f_none)
      obtain rfl := (hI.1.2.2.2 q1).2.1 hk
      refine ih _ _ _ _ _ _ _ _ ⟨Hv_r hI.1 (by omega) (hq (by omega)), hI.2⟩ (fun _ _ => hr (by omega) (by omega)) (fun h => by omega)
    refine f_ite (fun hp => ?_) (fun hp => ?_)
    · subst hp
      refine f_ite (fun hk => ?_) (fun hc => f_none)
      refine r_bindN (fun j15 => ?_)
      refine f_bind (rv_copyOf (e := 1) hI ?_) (fun y hy => ?_)
      · obtain rfl := (hI.1.2.2.2 r0).2.1 hk; rfl
      · exact ih _ _ _ _ _ _ _ _ hy.1 (fun _ _ => hKs hI hy.1 hk) (fun _ => hy.2)
    refine f_ite (fun hp => ?_) (fun hp => ?_)
    · subst hp
      refine f_ite (fun hk => ?_) (fun hc => f_none)
      obtain rfl := (hI.1.2.2.2 q1).2.1 hk
      refine ih _ _ _ _ _ _ _ _ ⟨Hv_r hI.1 (by omega) (hq (by omega)), hI.2⟩ (fun _ _ => hr (by omega) (by omega)) (fun h => by omega)
    refine f_ite (fun hp => ?_) (fun hp => ?_)
    · subst hp
      refine f_ite (fun hk => ?_) (fun hc => f_none)
      refine r_bindN (fun j15 => ?_)
      refine f_bind (rv_copyOf (e := 0) hI ?_) (fun y hy => ?_)
      · obtain rfl := (hI.1.2.2.2 r0).2.1 hk; rfl
      · exact ih _ _ _ _ _ _ _ _ hy.1 (fun _ _ => hKs hI hy.1 hk) (fun _ => hy.2)
    refine f_ite (fun hp => ?_) (fun hp => ?_)
    · subst hp
      refine f_ite (fun hk => ?_) (fun hc => f_none)
      obtain rfl := (hI.1.2.2.2 q1).2.1 hk
      refine ih _ _ _ _ _ _ _ _ ⟨Hv_r hI.1 (by omega) (hq (by omega)), hI.2⟩ (fun _ h => absurd rfl h) (fun h => by omega)
    refine f_ite (fun hp => ?_) (fun hp => f_none)
    subst hp
    have hI0 : Rv B1 B2 0 M ρ := hI
    clear hI ih hr hq
    repeat' (with_reducible (first | exact f_none | refine f_ite (fun hc => ?_) (fun hc => ?_) | refine r_letM (Rv_ua (by assumption) (by assumption) ?_) (fun M' hM' => ?_) | refine r_letM (Rv_uf (by assumption) (by assumption) (by decide)) (fun M' hM' => ?_) | refine r_letM (Rv_16 (by assumption) (by assumption) (by assumption)) (fun M' hM' => ?_) | refine f_letI (fun v => ?_) | refine f_cs (fun x => ?_) (fun E => ?_) | refine r_letM (Rv_cp (by assumption) (by assumption) ?_) (fun M' hM' => ?_) | refine r_letM (by assumption) (fun M' hM' => ?_)  | refine r_bindF (by assumption) (by assumption) (by decide) (fun j hj => ?_) | refine r_bindA (by assumption) (by assumption) (by decide) (by assumption) (fun j hj => ?_) | refine r_bindN (fun j => ?_) | refine f_some ?_ | assumption | exact nj_k (by assumption) (by assumption) (by decide) | refine Rv_ua (by assumption) (by assumption) ?_ | refine Rv_uf (by assumption) (by assumption) (by decide) | exact Rv_16 (by assumption) (by assumption) (by assumption) | refine Rv_cp (by assumption) (by assumption) ?_ | exact Int32.le_refl _ | exact Rv_le (by assumption) (by assumption) (by assumption) | apply And.intro))
theorem rv_gX5_change {n r0 : Nat} {x1 x2 : Int32} (hI : Rv B1 B2 0 M ρ) : ∀ z, gX5_change n r0 x1 x2 M ρ = some z → Rv B1 B2 0 z.1 z.2 := by
  unfold gX5_change
  exact rv_fX5_change _ _ _ _ _ _ _ _ _ hI (fun h => absurd rfl h) (fun h => by omega)
theorem rv_fX6_begin : ∀ (n pc r0 : Nat) (x1 x2 x3 : Int32) (q0 : Nat) (s0 : Int32) (q1 : Nat) (M : ao_M) (ρ : ao_H), Rv B1 B2 0 M ρ → x2 ≤ x3 → ∀ z, fX6_begin n pc r0 x1 x2 x3 q0 s0 q1 M ρ = some z → Rv B1 B2 0 z ρ := by
  intro n
  induction n with
  | zero => intros; exact absurd (by assumption) (by simp [fX6_begin.eq_1])
  | succ n ih =>
    intro pc r0 x1 x2 x3 q0 s0 q1 M ρ hI hx
    rw [fX6_begin.eq_2]
    refine f_ite (fun hp => ?_) (fun hp => ?_)
    · refine f_ite (fun hk => ?_) (fun hc => f_none)
      refine f_ite (fun hc => ih _ _ _ _ _ _ _ _ _ _ hI hx) (fun hc => ?_)
      exact f_ite (fun hc => ih _ _ _ _ _ _ _ _ _ _ hI hx) (fun hc => ih _ _ _ _ _ _ _ _ _ _ hI hx)
    refine f_ite (fun hp => ih _ _ _ _ _ _ _ _ _ _ hI hx) (fun hp => ?_)
    refine f_ite (fun hp => ?_) (fun hp => f_none)
    refine f_ite (fun hc => ?_) (fun hc => f_none)
    refine f_ite (fun hk1 => ?_) (fun hc => f_none)
    refine r_letM (Rv_uf hI hk1 (by decide)) (fun M6 h6 => ?_)
    refine f_ite (fun hk => ?_) (fun hc => f_none)
    refine f_ite (fun hc => f_some h6) (fun hc => ?_)
    refine r_bindF h6 hk (by decide) (fun j9 hj9 => ?_)
    refine f_ite (fun hk9 => ?_) (fun hc => f_none)
    refine f_ite (fun hc => ?_) (fun hc => f_none)
    refine r_letM (Rv_ua h6 hk9 hj9) (fun M12 h12 => ?_)
    obtain rfl := (h12.1.2.2.2 r0).2.2.1 hk
    have hA := h12.1.1.1
    refine f_bind (P := fun j => j = 29) (fun j q => by simp only [hA] at q; exact (Option.some.inj q).symm) (fun j13 hj => ?_)
    subst hj
    refine f_ite (fun hc => ?_) (fun hc => f_none)
    refine f_ite (fun hc => ?_) (fun hc => f_none)
    show ∀ z, (ρ.1 25 4).bind _ = some z → _
    refine f_bind (P := fun j => j = 30) (fun j q => by simp only [hA] at q; exact (Option.some.inj q).symm) (fun j13 hj => ?_)
    subst hj
    refine f_ite (fun hc => ?_) (fun hc => f_none)
    refine f_ite (fun hc => ?_) (fun hc => f_none)
    refine r_letM (e := 0) (B1 := B1) (B2 := B2) (ρ := ρ) ?_ (fun M20 h20 => ?_)
    · obtain ⟨hH, rm, ⟨a1, a2, a3, a4, a5, a6⟩, hr⟩ := h12
      refine ⟨hH, rm, ⟨by rw [u_ne (by omega), u_ne (by omega)]; exact a1, by rw [u_ne (by omega), u_ne (by omega)]; exact a2, a3, a4, fun t ht => ?_, fun i hi => ?_⟩, hr⟩
      · rw [u_ne (by omega), u_ne (by omega), u_ne (a := 12) (by omega), u_ne (a := 12) (by omega)]; exact a5 t ht
      · have e9 : ao_u M12 29 (M12 25 9).toNatClampNeg x2 25 9 = M12 25 9 := u_ne (by omega)
        rw [u_ne (a := 29) (by omega), e9]
        by_cases q : i = (M12 25 9).toNatClampNeg
        · subst q; rw [u_eq, u_eq]; exact hx
        · rw [u_ne (Or.inr q), u_ne (Or.inr q), u_ne (by omega)]; exact a6 i hi
    clear h6 h12 hI ih
    repeat' (with_reducible (first | exact f_none | refine f_ite (fun hc => ?_) (fun hc => ?_) | refine r_letM (Rv_ua (by assumption) (by assumption) ?_) (fun M' hM' => ?_) | refine r_letM (Rv_uf (by assumption) (by assumption) (by decide)) (fun M' hM' => ?_) | refine r_letM (Rv_16 (by assumption) (by assumption) (by assumption)) (fun M' hM' => ?_) | refine f_letI (fun v => ?_) | refine f_cs (fun x => ?_) (fun E => ?_) | refine r_letM (Rv_cp (by assumption) (by assumption) ?_) (fun M' hM' => ?_) | refine r_letM (by assumption) (fun M' hM' => ?_)  | refine r_bindF (by assumption) (by assumption) (by decide) (fun j hj => ?_) | refine r_bindA (by assumption) (by assumption) (by decide) (by assumption) (fun j hj => ?_) | refine r_bindN (fun j => ?_) | refine f_some ?_ | assumption | exact nj_k (by assumption) (by assumption) (by decide) | refine Rv_ua (by assumption) (by assumption) ?_ | refine Rv_uf (by assumption) (by assumption) (by decide) | exact Rv_16 (by assumption) (by assumption) (by assumption) | refine Rv_cp (by assumption) (by assumption) ?_ | exact Int32.le_refl _ | exact Rv_le (by assumption) (by assumption) (by assumption) | apply And.intro))
theorem rv_gX6_begin {n r0 : Nat} {x1 x2 x3 : Int32} (hI : Rv B1 B2 0 M ρ) (hx : x2 ≤ x3) : ∀ z, gX6_begin n r0 x1 x2 x3 M ρ = some z → Rv B1 B2 0 z ρ := by
  unfold gX6_begin
  exact rv_fX6_begin _ _ _ _ _ _ _ _ _ _ _ hI hx
set_option maxRecDepth 100000 in
set_option maxHeartbeats 4000000 in
theorem rv_fX7_level (h00 : nj 0) : ∀ (n : Nat) (pc : Nat) (r0 : Nat) (x1 : Int32) (s0 : Int32) (q1 : Nat) (M : ao_M) (ρ : ao_H), Rv B1 B2 0 M ρ → nj r0 → nj q1 → ∀ z, fX7_level n pc r0 x1 s0 q1 M ρ = some z → (Rv B1 B2 0 z.2 ρ ∧ nj z.1) := by
  intro n
  induction n with
  | zero => intros; exact absurd (by assumption) (by simp [fX7_level.eq_1])
  | succ n ih =>
    intro pc r0 x1 s0 q1 M ρ hI h_r0 h_q1
    rw [fX7_level.eq_2]
    repeat' (with_reducible (first | exact f_none | refine f_ite (fun hc => ?_) (fun hc => ?_) | refine r_letM (Rv_ua (by assumption) (by assumption) ?_) (fun M' hM' => ?_) | refine r_letM (Rv_uf (by assumption) (by assumption) (by decide)) (fun M' hM' => ?_) | refine r_letM (Rv_16 (by assumption) (by assumption) (by assumption)) (fun M' hM' => ?_) | refine f_letI (fun v => ?_) | refine f_cs (fun x => ?_) (fun E => ?_) | refine r_letM (Rv_cp (by assumption) (by assumption) ?_) (fun M' hM' => ?_) | refine r_letM (by assumption) (fun M' hM' => ?_) | refine ih _ _ _ _ _ _ _ (by assumption) ?_ ?_ | refine ih _ _ _ _ _ _ _ ?_ ?_ ?_ | refine f_bind (ih _ _ _ _ _ _ _ (by assumption) ?_ ?_) (fun y hy => ?_)  | refine r_bindF (by assumption) (by assumption) (by decide) (fun j hj => ?_) | refine r_bindA (by assumption) (by assumption) (by decide) (by assumption) (fun j hj => ?_) | refine r_bindN (fun j => ?_) | refine f_some ?_ | assumption | exact nj_k (by assumption) (by assumption) (by decide) | exact h00 | refine Rv_ua (by assumption) (by assumption) ?_ | refine Rv_uf (by assumption) (by assumption) (by decide) | exact Rv_16 (by assumption) (by assumption) (by assumption) | refine Rv_cp (by assumption) (by assumption) ?_ | exact Int32.le_refl _ | exact Rv_le (by assumption) (by assumption) (by assumption) | apply And.intro))
set_option maxRecDepth 100000 in
set_option maxHeartbeats 4000000 in
theorem rv_gX7_level (h00 : nj 0) {n : Nat} {r0 : Nat} {x1 : Int32} {M : ao_M} {ρ : ao_H} (hI : Rv B1 B2 0 M ρ) (h_r0 : nj r0) : ∀ z, gX7_level n r0 x1 M ρ = some z → (Rv B1 B2 0 z.2 ρ ∧ nj z.1) := by
  unfold gX7_level
  exact rv_fX7_level h00 _ _ _ _ _ _ _ _ hI (by first | assumption | exact h00) (by first | assumption | exact h00)
set_option maxRecDepth 100000 in
set_option maxHeartbeats 4000000 in
theorem rv_gX5_isTakenByOther (h00 : nj 0) {r0 : Nat} {x1 : Int32} {x2 : Int32} {M : ao_M} {ρ : ao_H} (hI : Rv B1 B2 0 M ρ) (h_r0 : nj r0) : ∀ z, gX5_isTakenByOther r0 x1 x2 M ρ = some z → Rv B1 B2 0 z.2 ρ := by
  unfold gX5_isTakenByOther
  repeat' (with_reducible (first | exact f_none | refine f_ite (fun hc => ?_) (fun hc => ?_) | refine r_letM (Rv_ua (by assumption) (by assumption) ?_) (fun M' hM' => ?_) | refine r_letM (Rv_uf (by assumption) (by assumption) (by decide)) (fun M' hM' => ?_) | refine r_letM (Rv_16 (by assumption) (by assumption) (by assumption)) (fun M' hM' => ?_) | refine f_letI (fun v => ?_) | refine f_cs (fun x => ?_) (fun E => ?_) | refine r_letM (Rv_cp (by assumption) (by assumption) ?_) (fun M' hM' => ?_) | refine r_letM (by assumption) (fun M' hM' => ?_)  | refine r_bindF (by assumption) (by assumption) (by decide) (fun j hj => ?_) | refine r_bindA (by assumption) (by assumption) (by decide) (by assumption) (fun j hj => ?_) | refine r_bindN (fun j => ?_) | refine f_some ?_ | assumption | exact nj_k (by assumption) (by assumption) (by decide) | exact h00 | refine Rv_ua (by assumption) (by assumption) ?_ | refine Rv_uf (by assumption) (by assumption) (by decide) | exact Rv_16 (by assumption) (by assumption) (by assumption) | refine Rv_cp (by assumption) (by assumption) ?_ | exact Int32.le_refl _ | exact Rv_le (by assumption) (by assumption) (by assumption) | apply And.intro))
set_option maxRecDepth 100000 in
set_option maxHeartbeats 4000000 in
theorem rv_fX2_hasNews (h00 : nj 0) : ∀ (n : Nat) (pc : Nat) (r0 : Nat) (r1 : Nat) (r2 : Nat) (x3 : Int32) (x4 : Int32) (M : ao_M) (ρ : ao_H), Rv B1 B2 0 M ρ → nj r0 → nj r1 → nj r2 → ∀ z, fX2_hasNews n pc r0 r1 r2 x3 x4 M ρ = some z → Rv B1 B2 0 z.2 ρ := by
  intro n
  induction n with
  | zero => intros; exact absurd (by assumption) (by simp [fX2_hasNews.eq_1])
  | succ n ih =>
    intro pc r0 r1 r2 x3 x4 M ρ hI h_r0 h_r1 h_r2
    rw [fX2_hasNews.eq_2]
    repeat' (with_reducible (first | exact f_none | refine f_ite (fun hc => ?_) (fun hc => ?_) | refine r_letM (Rv_ua (by assumption) (by assumption) ?_) (fun M' hM' => ?_) | refine r_letM (Rv_uf (by assumption) (by assumption) (by decide)) (fun M' hM' => ?_) | refine r_letM (Rv_16 (by assumption) (by assumption) (by assumption)) (fun M' hM' => ?_) | refine f_letI (fun v => ?_) | refine f_cs (fun x => ?_) (fun E => ?_) | refine r_letM (Rv_cp (by assumption) (by assumption) ?_) (fun M' hM' => ?_) | refine r_letM (by assumption) (fun M' hM' => ?_) | refine ih _ _ _ _ _ _ _ _ (by assumption) ?_ ?_ ?_ | refine ih _ _ _ _ _ _ _ _ ?_ ?_ ?_ ?_ | refine f_bind (ih _ _ _ _ _ _ _ _ (by assumption) ?_ ?_ ?_) (fun y hy => ?_) | refine f_bind2 (rv_gX7_level h00 (by assumption) ?_) (fun y hy1 hy2 => ?_) | refine f_bind (rv_gX5_isTakenByOther h00 (by assumption) ?_) (fun y hy => ?_)  | refine r_bindF (by assumption) (by assumption) (by decide) (fun j hj => ?_) | refine r_bindA (by assumption) (by assumption) (by decide) (by assumption) (fun j hj => ?_) | refine r_bindN (fun j => ?_) | refine f_some ?_ | assumption | exact nj_k (by assumption) (by assumption) (by decide) | exact h00 | refine Rv_ua (by assumption) (by assumption) ?_ | refine Rv_uf (by assumption) (by assumption) (by decide) | exact Rv_16 (by assumption) (by assumption) (by assumption) | refine Rv_cp (by assumption) (by assumption) ?_ | exact Int32.le_refl _ | exact Rv_le (by assumption) (by assumption) (by assumption) | apply And.intro))
set_option maxRecDepth 100000 in
set_option maxHeartbeats 4000000 in
theorem rv_gX2_hasNews (h00 : nj 0) {n : Nat} {r0 : Nat} {r1 : Nat} {M : ao_M} {ρ : ao_H} (hI : Rv B1 B2 0 M ρ) (h_r0 : nj r0) (h_r1 : nj r1) : ∀ z, gX2_hasNews n r0 r1 M ρ = some z → Rv B1 B2 0 z.2 ρ := by
  unfold gX2_hasNews
  exact rv_fX2_hasNews h00 _ _ _ _ _ _ _ _ _ hI (by first | assumption | exact h00) (by first | assumption | exact h00) (by first | assumption | exact h00)
set_option maxRecDepth 100000 in
set_option maxHeartbeats 4000000 in
theorem rv_fX2_howManyAre (h00 : nj 0) : ∀ (n : Nat) (pc : Nat) (r0 : Nat) (x1 : Int32) (x2 : Int32) (x3 : Int32) (M : ao_M) (ρ : ao_H), Rv B1 B2 0 M ρ → nj r0 → ∀ z, fX2_howManyAre n pc r0 x1 x2 x3 M ρ = some z → Rv B1 B2 0 z.2 ρ := by
  intro n
  induction n with
  | zero => intros; exact absurd (by assumption) (by simp [fX2_howManyAre.eq_1])
  | succ n ih =>
    intro pc r0 x1 x2 x3 M ρ hI h_r0
    rw [fX2_howManyAre.eq_2]
    repeat' (with_reducible (first | exact f_none | refine f_ite (fun hc => ?_) (fun hc => ?_) | refine r_letM (Rv_ua (by assumption) (by assumption) ?_) (fun M' hM' => ?_) | refine r_letM (Rv_uf (by assumption) (by assumption) (by decide)) (fun M' hM' => ?_) | refine r_letM (Rv_16 (by assumption) (by assumption) (by assumption)) (fun M' hM' => ?_) | refine f_letI (fun v => ?_) | refine f_cs (fun x => ?_) (fun E => ?_) | refine r_letM (Rv_cp (by assumption) (by assumption) ?_) (fun M' hM' => ?_) | refine r_letM (by assumption) (fun M' hM' => ?_) | refine ih _ _ _ _ _ _ _ (by assumption) ?_ | refine ih _ _ _ _ _ _ _ ?_ ?_ | refine f_bind (ih _ _ _ _ _ _ _ (by assumption) ?_) (fun y hy => ?_)  | refine r_bindF (by assumption) (by assumption) (by decide) (fun j hj => ?_) | refine r_bindA (by assumption) (by assumption) (by decide) (by assumption) (fun j hj => ?_) | refine r_bindN (fun j => ?_) | refine f_some ?_ | assumption | exact nj_k (by assumption) (by assumption) (by decide) | exact h00 | refine Rv_ua (by assumption) (by assumption) ?_ | refine Rv_uf (by assumption) (by assumption) (by decide) | exact Rv_16 (by assumption) (by assumption) (by assumption) | refine Rv_cp (by assumption) (by assumption) ?_ | exact Int32.le_refl _ | exact Rv_le (by assumption) (by assumption) (by assumption) | apply And.intro))
set_option maxRecDepth 100000 in
set_option maxHeartbeats 4000000 in
theorem rv_gX2_howManyAre (h00 : nj 0) {n : Nat} {r0 : Nat} {x1 : Int32} {M : ao_M} {ρ : ao_H} (hI : Rv B1 B2 0 M ρ) (h_r0 : nj r0) : ∀ z, gX2_howManyAre n r0 x1 M ρ = some z → Rv B1 B2 0 z.2 ρ := by
  unfold gX2_howManyAre
  exact rv_fX2_howManyAre h00 _ _ _ _ _ _ _ _ hI (by first | assumption | exact h00)
set_option maxRecDepth 100000 in
set_option maxHeartbeats 4000000 in
theorem rv_fX2_isBusy (h00 : nj 0) : ∀ (n : Nat) (pc : Nat) (r0 : Nat) (r1 : Nat) (s0 : Int32) (s1 : Int32) (M : ao_M) (ρ : ao_H), Rv B1 B2 0 M ρ → nj r0 → nj r1 → ∀ z, fX2_isBusy n pc r0 r1 s0 s1 M ρ = some z → Rv B1 B2 0 z.2 ρ := by
  intro n
  induction n with
  | zero => intros; exact absurd (by assumption) (by simp [fX2_isBusy.eq_1])
  | succ n ih =>
    intro pc r0 r1 s0 s1 M ρ hI h_r0 h_r1
    rw [fX2_isBusy.eq_2]
    repeat' (with_reducible (first | exact f_none | refine f_ite (fun hc => ?_) (fun hc => ?_) | refine r_letM (Rv_ua (by assumption) (by assumption) ?_) (fun M' hM' => ?_) | refine r_letM (Rv_uf (by assumption) (by assumption) (by decide)) (fun M' hM' => ?_) | refine r_letM (Rv_16 (by assumption) (by assumption) (by assumption)) (fun M' hM' => ?_) | refine f_letI (fun v => ?_) | refine f_cs (fun x => ?_) (fun E => ?_) | refine r_letM (Rv_cp (by assumption) (by assumption) ?_) (fun M' hM' => ?_) | refine r_letM (by assumption) (fun M' hM' => ?_) | refine ih _ _ _ _ _ _ _ (by assumption) ?_ ?_ | refine ih _ _ _ _ _ _ _ ?_ ?_ ?_ | refine f_bind (ih _ _ _ _ _ _ _ (by assumption) ?_ ?_) (fun y hy => ?_) | refine f_bind (rv_gX2_howManyAre h00 (by assumption) ?_) (fun y hy => ?_)  | refine r_bindF (by assumption) (by assumption) (by decide) (fun j hj => ?_) | refine r_bindA (by assumption) (by assumption) (by decide) (by assumption) (fun j hj => ?_) | refine r_bindN (fun j => ?_) | refine f_some ?_ | assumption | exact nj_k (by assumption) (by assumption) (by decide) | exact h00 | refine Rv_ua (by assumption) (by assumption) ?_ | refine Rv_uf (by assumption) (by assumption) (by decide) | exact Rv_16 (by assumption) (by assumption) (by assumption) | refine Rv_cp (by assumption) (by assumption) ?_ | exact Int32.le_refl _ | exact Rv_le (by assumption) (by assumption) (by assumption) | apply And.intro))
set_option maxRecDepth 100000 in
set_option maxHeartbeats 4000000 in
theorem rv_gX2_isBusy (h00 : nj 0) {n : Nat} {r0 : Nat} {r1 : Nat} {M : ao_M} {ρ : ao_H} (hI : Rv B1 B2 0 M ρ) (h_r0 : nj r0) (h_r1 : nj r1) : ∀ z, gX2_isBusy n r0 r1 M ρ = some z → Rv B1 B2 0 z.2 ρ := by
  unfold gX2_isBusy
  exact rv_fX2_isBusy h00 _ _ _ _ _ _ _ _ hI (by first | assumption | exact h00) (by first | assumption | exact h00)
set_option maxRecDepth 100000 in
set_option maxHeartbeats 4000000 in
theorem rv_gX7_setBackTo (h00 : nj 0) {r0 : Nat} {r1 : Nat} {M : ao_M} {ρ : ao_H} (hI : Rv B1 B2 0 M ρ) (h_r0 : nj r0) (h_r1 : nj r1) : ∀ z, gX7_setBackTo r0 r1 M ρ = some z → Rv B1 B2 0 z ρ := by
  unfold gX7_setBackTo
  repeat' (with_reducible (first | exact f_none | refine f_ite (fun hc => ?_) (fun hc => ?_) | refine r_letM (Rv_ua (by assumption) (by assumption) ?_) (fun M' hM' => ?_) | refine r_letM (Rv_uf (by assumption) (by assumption) (by decide)) (fun M' hM' => ?_) | refine r_letM (Rv_16 (by assumption) (by assumption) (by assumption)) (fun M' hM' => ?_) | refine f_letI (fun v => ?_) | refine f_cs (fun x => ?_) (fun E => ?_) | refine r_letM (Rv_cp (by assumption) (by assumption) ?_) (fun M' hM' => ?_) | refine r_letM (by assumption) (fun M' hM' => ?_)  | refine r_bindF (by assumption) (by assumption) (by decide) (fun j hj => ?_) | refine r_bindA (by assumption) (by assumption) (by decide) (by assumption) (fun j hj => ?_) | refine r_bindN (fun j => ?_) | refine f_some ?_ | assumption | exact nj_k (by assumption) (by assumption) (by decide) | exact h00 | refine Rv_ua (by assumption) (by assumption) ?_ | refine Rv_uf (by assumption) (by assumption) (by decide) | exact Rv_16 (by assumption) (by assumption) (by assumption) | refine Rv_cp (by assumption) (by assumption) ?_ | exact Int32.le_refl _ | exact Rv_le (by assumption) (by assumption) (by assumption) | apply And.intro))
set_option maxRecDepth 100000 in
set_option maxHeartbeats 4000000 in
theorem rv_fX2_writesAtOnce (h00 : nj 0) : ∀ (n : Nat) (pc : Nat) (r0 : Nat) (M : ao_M) (ρ : ao_H), Rv B1 B2 0 M ρ → nj r0 → ∀ z, fX2_writesAtOnce n pc r0 M ρ = some z → Rv B1 B2 0 z.2 ρ := by
  intro n
  induction n with
  | zero => intros; exact absurd (by assumption) (by simp [fX2_writesAtOnce.eq_1])
  | succ n ih =>
    intro pc r0 M ρ hI h_r0
    rw [fX2_writesAtOnce.eq_2]
    repeat' (with_reducible (first | exact f_none | refine f_ite (fun hc => ?_) (fun hc => ?_) | refine r_letM (Rv_ua (by assumption) (by assumption) ?_) (fun M' hM' => ?_) | refine r_letM (Rv_uf (by assumption) (by assumption) (by decide)) (fun M' hM' => ?_) | refine r_letM (Rv_16 (by assumption) (by assumption) (by assumption)) (fun M' hM' => ?_) | refine f_letI (fun v => ?_) | refine f_cs (fun x => ?_) (fun E => ?_) | refine r_letM (Rv_cp (by assumption) (by assumption) ?_) (fun M' hM' => ?_) | refine r_letM (by assumption) (fun M' hM' => ?_) | refine ih _ _ _ _ (by assumption) ?_ | refine ih _ _ _ _ ?_ ?_ | refine f_bind (ih _ _ _ _ (by assumption) ?_) (fun y hy => ?_)  | refine r_bindF (by assumption) (by assumption) (by decide) (fun j hj => ?_) | refine r_bindA (by assumption) (by assumption) (by decide) (by assumption) (fun j hj => ?_) | refine r_bindN (fun j => ?_) | refine f_some ?_ | assumption | exact nj_k (by assumption) (by assumption) (by decide) | exact h00 | refine Rv_ua (by assumption) (by assumption) ?_ | refine Rv_uf (by assumption) (by assumption) (by decide) | exact Rv_16 (by assumption) (by assumption) (by assumption) | refine Rv_cp (by assumption) (by assumption) ?_ | exact Int32.le_refl _ | exact Rv_le (by assumption) (by assumption) (by assumption) | apply And.intro))
set_option maxRecDepth 100000 in
set_option maxHeartbeats 4000000 in
theorem rv_gX2_writesAtOnce (h00 : nj 0) {n : Nat} {r0 : Nat} {M : ao_M} {ρ : ao_H} (hI : Rv B1 B2 0 M ρ) (h_r0 : nj r0) : ∀ z, gX2_writesAtOnce n r0 M ρ = some z → Rv B1 B2 0 z.2 ρ := by
  unfold gX2_writesAtOnce
  exact rv_fX2_writesAtOnce h00 _ _ _ _ _ hI (by first | assumption | exact h00)
set_option maxRecDepth 100000 in
set_option maxHeartbeats 4000000 in
theorem rv_fX2_giveBack (h00 : nj 0) : ∀ (n : Nat) (pc : Nat) (r0 : Nat) (r1 : Nat) (x2 : Int32) (M : ao_M) (ρ : ao_H), Rv B1 B2 0 M ρ → nj r0 → nj r1 → ∀ z, fX2_giveBack n pc r0 r1 x2 M ρ = some z → Rv B1 B2 0 z ρ := by
  intro n
  induction n with
  | zero => intros; exact absurd (by assumption) (by simp [fX2_giveBack.eq_1])
  | succ n ih =>
    intro pc r0 r1 x2 M ρ hI h_r0 h_r1
    rw [fX2_giveBack.eq_2]
    repeat' (with_reducible (first | exact f_none | refine f_ite (fun hc => ?_) (fun hc => ?_) | refine r_letM (Rv_ua (by assumption) (by assumption) ?_) (fun M' hM' => ?_) | refine r_letM (Rv_uf (by assumption) (by assumption) (by decide)) (fun M' hM' => ?_) | refine r_letM (Rv_16 (by assumption) (by assumption) (by assumption)) (fun M' hM' => ?_) | refine f_letI (fun v => ?_) | refine f_cs (fun x => ?_) (fun E => ?_) | refine r_letM (Rv_cp (by assumption) (by assumption) ?_) (fun M' hM' => ?_) | refine r_letM (by assumption) (fun M' hM' => ?_) | refine ih _ _ _ _ _ _ (by assumption) ?_ ?_ | refine ih _ _ _ _ _ _ ?_ ?_ ?_ | refine f_bind (ih _ _ _ _ _ _ (by assumption) ?_ ?_) (fun y hy => ?_)  | refine r_bindF (by assumption) (by assumption) (by decide) (fun j hj => ?_) | refine r_bindA (by assumption) (by assumption) (by decide) (by assumption) (fun j hj => ?_) | refine r_bindN (fun j => ?_) | refine f_some ?_ | assumption | exact nj_k (by assumption) (by assumption) (by decide) | exact h00 | refine Rv_ua (by assumption) (by assumption) ?_ | refine Rv_uf (by assumption) (by assumption) (by decide) | exact Rv_16 (by assumption) (by assumption) (by assumption) | refine Rv_cp (by assumption) (by assumption) ?_ | exact Int32.le_refl _ | exact Rv_le (by assumption) (by assumption) (by assumption) | apply And.intro))
set_option maxRecDepth 100000 in
set_option maxHeartbeats 4000000 in
theorem rv_gX2_giveBack (h00 : nj 0) {n : Nat} {r0 : Nat} {r1 : Nat} {M : ao_M} {ρ : ao_H} (hI : Rv B1 B2 0 M ρ) (h_r0 : nj r0) (h_r1 : nj r1) : ∀ z, gX2_giveBack n r0 r1 M ρ = some z → Rv B1 B2 0 z ρ := by
  unfold gX2_giveBack
  exact rv_fX2_giveBack h00 _ _ _ _ _ _ _ hI (by first | assumption | exact h00) (by first | assumption | exact h00)
set_option maxRecDepth 100000 in
set_option maxHeartbeats 4000000 in
theorem rv_gX3_forgetWrites (h00 : nj 0) {r0 : Nat} {M : ao_M} {ρ : ao_H} (hI : Rv B1 B2 0 M ρ) (h_r0 : nj r0) : ∀ z, gX3_forgetWrites r0 M ρ = some z → Rv B1 B2 0 z ρ := by
  unfold gX3_forgetWrites
  repeat' (with_reducible (first | exact f_none | refine f_ite (fun hc => ?_) (fun hc => ?_) | refine r_letM (Rv_ua (by assumption) (by assumption) ?_) (fun M' hM' => ?_) | refine r_letM (Rv_uf (by assumption) (by assumption) (by decide)) (fun M' hM' => ?_) | refine r_letM (Rv_16 (by assumption) (by assumption) (by assumption)) (fun M' hM' => ?_) | refine f_letI (fun v => ?_) | refine f_cs (fun x => ?_) (fun E => ?_) | refine r_letM (Rv_cp (by assumption) (by assumption) ?_) (fun M' hM' => ?_) | refine r_letM (by assumption) (fun M' hM' => ?_)  | refine r_bindF (by assumption) (by assumption) (by decide) (fun j hj => ?_) | refine r_bindA (by assumption) (by assumption) (by decide) (by assumption) (fun j hj => ?_) | refine r_bindN (fun j => ?_) | refine f_some ?_ | assumption | exact nj_k (by assumption) (by assumption) (by decide) | exact h00 | refine Rv_ua (by assumption) (by assumption) ?_ | refine Rv_uf (by assumption) (by assumption) (by decide) | exact Rv_16 (by assumption) (by assumption) (by assumption) | refine Rv_cp (by assumption) (by assumption) ?_ | exact Int32.le_refl _ | exact Rv_le (by assumption) (by assumption) (by assumption) | apply And.intro))
set_option maxRecDepth 100000 in
set_option maxHeartbeats 4000000 in
theorem rv_fX2_takeBack (h00 : nj 0) : ∀ (n : Nat) (pc : Nat) (r0 : Nat) (r1 : Nat) (x2 : Int32) (x3 : Int32) (r4 : Nat) (M : ao_M) (ρ : ao_H), Rv B1 B2 0 M ρ → nj r0 → nj r1 → nj r4 → ∀ z, fX2_takeBack n pc r0 r1 x2 x3 r4 M ρ = some z → Rv B1 B2 0 z ρ := by
  intro n
  induction n with
  | zero => intros; exact absurd (by assumption) (by simp [fX2_takeBack.eq_1])
  | succ n ih =>
    intro pc r0 r1 x2 x3 r4 M ρ hI h_r0 h_r1 h_r4
    rw [fX2_takeBack.eq_2]
    repeat' (with_reducible (first | exact f_none | refine f_ite (fun hc => ?_) (fun hc => ?_) | refine r_letM (Rv_ua (by assumption) (by assumption) ?_) (fun M' hM' => ?_) | refine r_letM (Rv_uf (by assumption) (by assumption) (by decide)) (fun M' hM' => ?_) | refine r_letM (Rv_16 (by assumption) (by assumption) (by assumption)) (fun M' hM' => ?_) | refine f_letI (fun v => ?_) | refine f_cs (fun x => ?_) (fun E => ?_) | refine r_letM (Rv_cp (by assumption) (by assumption) ?_) (fun M' hM' => ?_) | refine r_letM (by assumption) (fun M' hM' => ?_) | refine ih _ _ _ _ _ _ _ _ (by assumption) ?_ ?_ ?_ | refine ih _ _ _ _ _ _ _ _ ?_ ?_ ?_ ?_ | refine f_bind (ih _ _ _ _ _ _ _ _ (by assumption) ?_ ?_ ?_) (fun y hy => ?_) | refine f_bind2 (rv_gX7_level h00 (by assumption) ?_) (fun y hy1 hy2 => ?_) | refine f_bind (rv_gX7_setBackTo h00 (by assumption) ?_ ?_) (fun y hy => ?_) | refine f_bind (rv_gX2_writesAtOnce h00 (by assumption) ?_) (fun y hy => ?_) | refine f_bind (rv_gX2_giveBack h00 (by assumption) ?_ ?_) (fun y hy => ?_) | refine f_bind (rv_gX3_forgetWrites h00 (by assumption) ?_) (fun y hy => ?_)  | refine r_bindF (by assumption) (by assumption) (by decide) (fun j hj => ?_) | refine r_bindA (by assumption) (by assumption) (by decide) (by assumption) (fun j hj => ?_) | refine r_bindN (fun j => ?_) | refine f_some ?_ | assumption | exact nj_k (by assumption) (by assumption) (by decide) | exact h00 | refine Rv_ua (by assumption) (by assumption) ?_ | refine Rv_uf (by assumption) (by assumption) (by decide) | exact Rv_16 (by assumption) (by assumption) (by assumption) | refine Rv_cp (by assumption) (by assumption) ?_ | exact Int32.le_refl _ | exact Rv_le (by assumption) (by assumption) (by assumption) | apply And.intro))
set_option maxRecDepth 100000 in
set_option maxHeartbeats 4000000 in
theorem rv_gX2_takeBack (h00 : nj 0) {n : Nat} {r0 : Nat} {r1 : Nat} {x2 : Int32} {M : ao_M} {ρ : ao_H} (hI : Rv B1 B2 0 M ρ) (h_r0 : nj r0) (h_r1 : nj r1) : ∀ z, gX2_takeBack n r0 r1 x2 M ρ = some z → Rv B1 B2 0 z ρ := by
  unfold gX2_takeBack
  exact rv_fX2_takeBack h00 _ _ _ _ _ _ _ _ _ hI (by first | assumption | exact h00) (by first | assumption | exact h00) (by first | assumption | exact h00)
set_option maxRecDepth 100000 in
set_option maxHeartbeats 4000000 in
theorem rv_gX3_forgetReads (h00 : nj 0) {r0 : Nat} {M : ao_M} {ρ : ao_H} (hI : Rv B1 B2 0 M ρ) (h_r0 : nj r0) : ∀ z, gX3_forgetReads r0 M ρ = some z → Rv B1 B2 0 z ρ := by
  unfold gX3_forgetReads
  repeat' (with_reducible (first | exact f_none | refine f_ite (fun hc => ?_) (fun hc => ?_) | refine r_letM (Rv_ua (by assumption) (by assumption) ?_) (fun M' hM' => ?_) | refine r_letM (Rv_uf (by assumption) (by assumption) (by decide)) (fun M' hM' => ?_) | refine r_letM (Rv_16 (by assumption) (by assumption) (by assumption)) (fun M' hM' => ?_) | refine f_letI (fun v => ?_) | refine f_cs (fun x => ?_) (fun E => ?_) | refine r_letM (Rv_cp (by assumption) (by assumption) ?_) (fun M' hM' => ?_) | refine r_letM (by assumption) (fun M' hM' => ?_)  | refine r_bindF (by assumption) (by assumption) (by decide) (fun j hj => ?_) | refine r_bindA (by assumption) (by assumption) (by decide) (by assumption) (fun j hj => ?_) | refine r_bindN (fun j => ?_) | refine f_some ?_ | assumption | exact nj_k (by assumption) (by assumption) (by decide) | exact h00 | refine Rv_ua (by assumption) (by assumption) ?_ | refine Rv_uf (by assumption) (by assumption) (by decide) | exact Rv_16 (by assumption) (by assumption) (by assumption) | refine Rv_cp (by assumption) (by assumption) ?_ | exact Int32.le_refl _ | exact Rv_le (by assumption) (by assumption) (by assumption) | apply And.intro))
set_option maxRecDepth 100000 in
set_option maxHeartbeats 4000000 in
theorem rv_fX5_release (h00 : nj 0) : ∀ (n : Nat) (pc : Nat) (r0 : Nat) (x1 : Int32) (x2 : Int32) (x3 : Int32) (M : ao_M) (ρ : ao_H), Rv B1 B2 0 M ρ → nj r0 → ∀ z, fX5_release n pc r0 x1 x2 x3 M ρ = some z → Rv B1 B2 0 z.1 z.2 := by
  intro n
  induction n with
  | zero => intros; exact absurd (by assumption) (by simp [fX5_release.eq_1])
  | succ n ih =>
    intro pc r0 x1 x2 x3 M ρ hI h_r0
    rw [fX5_release.eq_2]
    repeat' (with_reducible (first | exact f_none | refine f_ite (fun hc => ?_) (fun hc => ?_) | refine r_letM (Rv_ua (by assumption) (by assumption) ?_) (fun M' hM' => ?_) | refine r_letM (Rv_uf (by assumption) (by assumption) (by decide)) (fun M' hM' => ?_) | refine r_letM (Rv_16 (by assumption) (by assumption) (by assumption)) (fun M' hM' => ?_) | refine f_letI (fun v => ?_) | refine f_cs (fun x => ?_) (fun E => ?_) | refine r_letM (Rv_cp (by assumption) (by assumption) ?_) (fun M' hM' => ?_) | refine r_letM (by assumption) (fun M' hM' => ?_) | refine ih _ _ _ _ _ _ _ (by assumption) ?_ | refine ih _ _ _ _ _ _ _ ?_ ?_ | refine f_bind (ih _ _ _ _ _ _ _ (by assumption) ?_) (fun y hy => ?_) | refine f_bind (rv_gX5_change (by assumption)) (fun y hy => ?_)  | refine r_bindF (by assumption) (by assumption) (by decide) (fun j hj => ?_) | refine r_bindA (by assumption) (by assumption) (by decide) (by assumption) (fun j hj => ?_) | refine r_bindN (fun j => ?_) | refine f_some ?_ | assumption | exact nj_k (by assumption) (by assumption) (by decide) | exact h00 | refine Rv_ua (by assumption) (by assumption) ?_ | refine Rv_uf (by assumption) (by assumption) (by decide) | exact Rv_16 (by assumption) (by assumption) (by assumption) | refine Rv_cp (by assumption) (by assumption) ?_ | exact Int32.le_refl _ | exact Rv_le (by assumption) (by assumption) (by assumption) | apply And.intro))
set_option maxRecDepth 100000 in
set_option maxHeartbeats 4000000 in
theorem rv_gX5_release (h00 : nj 0) {n : Nat} {r0 : Nat} {x1 : Int32} {M : ao_M} {ρ : ao_H} (hI : Rv B1 B2 0 M ρ) (h_r0 : nj r0) : ∀ z, gX5_release n r0 x1 M ρ = some z → Rv B1 B2 0 z.1 z.2 := by
  unfold gX5_release
  exact rv_fX5_release h00 _ _ _ _ _ _ _ _ hI (by first | assumption | exact h00)
set_option maxRecDepth 100000 in
set_option maxHeartbeats 4000000 in
theorem rv_fX2_restart (h00 : nj 0) : ∀ (n : Nat) (pc : Nat) (r0 : Nat) (r1 : Nat) (x2 : Int32) (r3 : Nat) (M : ao_M) (ρ : ao_H), Rv B1 B2 0 M ρ → nj r0 → nj r1 → nj r3 → ∀ z, fX2_restart n pc r0 r1 x2 r3 M ρ = some z → Rv B1 B2 0 z.1 z.2 := by
  intro n
  induction n with
  | zero => intros; exact absurd (by assumption) (by simp [fX2_restart.eq_1])
  | succ n ih =>
    intro pc r0 r1 x2 r3 M ρ hI h_r0 h_r1 h_r3
    rw [fX2_restart.eq_2]
    repeat' (with_reducible (first | exact f_none | refine f_ite (fun hc => ?_) (fun hc => ?_) | refine r_letM (Rv_ua (by assumption) (by assumption) ?_) (fun M' hM' => ?_) | refine r_letM (Rv_uf (by assumption) (by assumption) (by decide)) (fun M' hM' => ?_) | refine r_letM (Rv_16 (by assumption) (by assumption) (by assumption)) (fun M' hM' => ?_) | refine f_letI (fun v => ?_) | refine f_cs (fun x => ?_) (fun E => ?_) | refine r_letM (Rv_cp (by assumption) (by assumption) ?_) (fun M' hM' => ?_) | refine r_letM (by assumption) (fun M' hM' => ?_) | refine ih _ _ _ _ _ _ _ (by assumption) ?_ ?_ ?_ | refine ih _ _ _ _ _ _ _ ?_ ?_ ?_ ?_ | refine f_bind (ih _ _ _ _ _ _ _ (by assumption) ?_ ?_ ?_) (fun y hy => ?_) | refine f_bind (rv_gX2_takeBack h00 (by assumption) ?_ ?_) (fun y hy => ?_) | refine f_bind2 (rv_gX7_level h00 (by assumption) ?_) (fun y hy1 hy2 => ?_) | refine f_bind (rv_gX3_forgetReads h00 (by assumption) ?_) (fun y hy => ?_) | refine f_bind (rv_gX5_release h00 (by assumption) ?_) (fun y hy => ?_)  | refine r_bindF (by assumption) (by assumption) (by decide) (fun j hj => ?_) | refine r_bindA (by assumption) (by assumption) (by decide) (by assumption) (fun j hj => ?_) | refine r_bindN (fun j => ?_) | refine f_some ?_ | assumption | exact nj_k (by assumption) (by assumption) (by decide) | exact h00 | refine Rv_ua (by assumption) (by assumption) ?_ | refine Rv_uf (by assumption) (by assumption) (by decide) | exact Rv_16 (by assumption) (by assumption) (by assumption) | refine Rv_cp (by assumption) (by assumption) ?_ | exact Int32.le_refl _ | exact Rv_le (by assumption) (by assumption) (by assumption) | apply And.intro))
set_option maxRecDepth 100000 in
set_option maxHeartbeats 4000000 in
theorem rv_gX2_restart (h00 : nj 0) {n : Nat} {r0 : Nat} {r1 : Nat} {x2 : Int32} {M : ao_M} {ρ : ao_H} (hI : Rv B1 B2 0 M ρ) (h_r0 : nj r0) (h_r1 : nj r1) : ∀ z, gX2_restart n r0 r1 x2 M ρ = some z → Rv B1 B2 0 z.1 z.2 := by
  unfold gX2_restart
  exact rv_fX2_restart h00 _ _ _ _ _ _ _ _ hI (by first | assumption | exact h00) (by first | assumption | exact h00) (by first | assumption | exact h00)
set_option maxRecDepth 100000 in
set_option maxHeartbeats 4000000 in
theorem rv_fX2_stir (h00 : nj 0) : ∀ (n : Nat) (pc : Nat) (r0 : Nat) (r1 : Nat) (M : ao_M) (ρ : ao_H), Rv B1 B2 0 M ρ → nj r0 → nj r1 → ∀ z, fX2_stir n pc r0 r1 M ρ = some z → Rv B1 B2 0 z.2.1 z.2.2 := by
  intro n
  induction n with
  | zero => intros; exact absurd (by assumption) (by simp [fX2_stir.eq_1])
  | succ n ih =>
    intro pc r0 r1 M ρ hI h_r0 h_r1
    rw [fX2_stir.eq_2]
    repeat' (with_reducible (first | exact f_none | refine f_ite (fun hc => ?_) (fun hc => ?_) | refine r_letM (Rv_ua (by assumption) (by assumption) ?_) (fun M' hM' => ?_) | refine r_letM (Rv_uf (by assumption) (by assumption) (by decide)) (fun M' hM' => ?_) | refine r_letM (Rv_16 (by assumption) (by assumption) (by assumption)) (fun M' hM' => ?_) | refine f_letI (fun v => ?_) | refine f_cs (fun x => ?_) (fun E => ?_) | refine r_letM (Rv_cp (by assumption) (by assumption) ?_) (fun M' hM' => ?_) | refine r_letM (by assumption) (fun M' hM' => ?_) | refine ih _ _ _ _ _ (by assumption) ?_ ?_ | refine ih _ _ _ _ _ ?_ ?_ ?_ | refine f_bind (ih _ _ _ _ _ (by assumption) ?_ ?_) (fun y hy => ?_) | refine f_bind (rv_gX2_hasNews h00 (by assumption) ?_ ?_) (fun y hy => ?_) | refine f_bind (rv_gX2_isBusy h00 (by assumption) ?_ ?_) (fun y hy => ?_) | refine f_bind (rv_gX2_restart h00 (by assumption) ?_ ?_) (fun y hy => ?_)  | refine r_bindF (by assumption) (by assumption) (by decide) (fun j hj => ?_) | refine r_bindA (by assumption) (by assumption) (by decide) (by assumption) (fun j hj => ?_) | refine r_bindN (fun j => ?_) | refine f_some ?_ | assumption | exact nj_k (by assumption) (by assumption) (by decide) | exact h00 | refine Rv_ua (by assumption) (by assumption) ?_ | refine Rv_uf (by assumption) (by assumption) (by decide) | exact Rv_16 (by assumption) (by assumption) (by assumption) | refine Rv_cp (by assumption) (by assumption) ?_ | exact Int32.le_refl _ | exact Rv_le (by assumption) (by assumption) (by assumption) | apply And.intro))
set_option maxRecDepth 100000 in
set_option maxHeartbeats 4000000 in
theorem rv_gX2_stir (h00 : nj 0) {n : Nat} {r0 : Nat} {r1 : Nat} {M : ao_M} {ρ : ao_H} (hI : Rv B1 B2 0 M ρ) (h_r0 : nj r0) (h_r1 : nj r1) : ∀ z, gX2_stir n r0 r1 M ρ = some z → Rv B1 B2 0 z.2.1 z.2.2 := by
  unfold gX2_stir
  exact rv_fX2_stir h00 _ _ _ _ _ _ hI (by first | assumption | exact h00) (by first | assumption | exact h00)
set_option maxRecDepth 100000 in
set_option maxHeartbeats 4000000 in
theorem rv_fX7_isLeft (h00 : nj 0) : ∀ (n : Nat) (pc : Nat) (r0 : Nat) (M : ao_M) (ρ : ao_H), Rv B1 B2 0 M ρ → nj r0 → ∀ z, fX7_isLeft n pc r0 M ρ = some z → Rv B1 B2 0 z.2 ρ := by
  intro n
  induction n with
  | zero => intros; exact absurd (by assumption) (by simp [fX7_isLeft.eq_1])
  | succ n ih =>
    intro pc r0 M ρ hI h_r0
    rw [fX7_isLeft.eq_2]
    repeat' (with_reducible (first | exact f_none | refine f_ite (fun hc => ?_) (fun hc => ?_) | refine r_letM (Rv_ua (by assumption) (by assumption) ?_) (fun M' hM' => ?_) | refine r_letM (Rv_uf (by assumption) (by assumption) (by decide)) (fun M' hM' => ?_) | refine r_letM (Rv_16 (by assumption) (by assumption) (by assumption)) (fun M' hM' => ?_) | refine f_letI (fun v => ?_) | refine f_cs (fun x => ?_) (fun E => ?_) | refine r_letM (Rv_cp (by assumption) (by assumption) ?_) (fun M' hM' => ?_) | refine r_letM (by assumption) (fun M' hM' => ?_) | refine ih _ _ _ _ (by assumption) ?_ | refine ih _ _ _ _ ?_ ?_ | refine f_bind (ih _ _ _ _ (by assumption) ?_) (fun y hy => ?_)  | refine r_bindF (by assumption) (by assumption) (by decide) (fun j hj => ?_) | refine r_bindA (by assumption) (by assumption) (by decide) (by assumption) (fun j hj => ?_) | refine r_bindN (fun j => ?_) | refine f_some ?_ | assumption | exact nj_k (by assumption) (by assumption) (by decide) | exact h00 | refine Rv_ua (by assumption) (by assumption) ?_ | refine Rv_uf (by assumption) (by assumption) (by decide) | exact Rv_16 (by assumption) (by assumption) (by assumption) | refine Rv_cp (by assumption) (by assumption) ?_ | exact Int32.le_refl _ | exact Rv_le (by assumption) (by assumption) (by assumption) | apply And.intro))
set_option maxRecDepth 100000 in
set_option maxHeartbeats 4000000 in
theorem rv_gX7_isLeft (h00 : nj 0) {n : Nat} {r0 : Nat} {M : ao_M} {ρ : ao_H} (hI : Rv B1 B2 0 M ρ) (h_r0 : nj r0) : ∀ z, gX7_isLeft n r0 M ρ = some z → Rv B1 B2 0 z.2 ρ := by
  unfold gX7_isLeft
  exact rv_fX7_isLeft h00 _ _ _ _ _ hI (by first | assumption | exact h00)
set_option maxRecDepth 100000 in
set_option maxHeartbeats 4000000 in
theorem rv_gX3_wrote (h00 : nj 0) {r0 : Nat} {x1 : Int32} {M : ao_M} {ρ : ao_H} (hI : Rv B1 B2 0 M ρ) (h_r0 : nj r0) : ∀ z, gX3_wrote r0 x1 M ρ = some z → Rv B1 B2 0 z.2 ρ := by
  unfold gX3_wrote
  repeat' (with_reducible (first | exact f_none | refine f_ite (fun hc => ?_) (fun hc => ?_) | refine r_letM (Rv_ua (by assumption) (by assumption) ?_) (fun M' hM' => ?_) | refine r_letM (Rv_uf (by assumption) (by assumption) (by decide)) (fun M' hM' => ?_) | refine r_letM (Rv_16 (by assumption) (by assumption) (by assumption)) (fun M' hM' => ?_) | refine f_letI (fun v => ?_) | refine f_cs (fun x => ?_) (fun E => ?_) | refine r_letM (Rv_cp (by assumption) (by assumption) ?_) (fun M' hM' => ?_) | refine r_letM (by assumption) (fun M' hM' => ?_)  | refine r_bindF (by assumption) (by assumption) (by decide) (fun j hj => ?_) | refine r_bindA (by assumption) (by assumption) (by decide) (by assumption) (fun j hj => ?_) | refine r_bindN (fun j => ?_) | refine f_some ?_ | assumption | exact nj_k (by assumption) (by assumption) (by decide) | exact h00 | refine Rv_ua (by assumption) (by assumption) ?_ | refine Rv_uf (by assumption) (by assumption) (by decide) | exact Rv_16 (by assumption) (by assumption) (by assumption) | refine Rv_cp (by assumption) (by assumption) ?_ | exact Int32.le_refl _ | exact Rv_le (by assumption) (by assumption) (by assumption) | apply And.intro))
set_option maxRecDepth 100000 in
set_option maxHeartbeats 4000000 in
theorem rv_gX7_push (h00 : nj 0) {r0 : Nat} {x1 : Int32} {M : ao_M} {ρ : ao_H} (hI : Rv B1 B2 0 M ρ) (h_r0 : nj r0) : ∀ z, gX7_push r0 x1 M ρ = some z → Rv B1 B2 0 z ρ := by
  unfold gX7_push
  repeat' (with_reducible (first | exact f_none | refine f_ite (fun hc => ?_) (fun hc => ?_) | refine r_letM (Rv_ua (by assumption) (by assumption) ?_) (fun M' hM' => ?_) | refine r_letM (Rv_uf (by assumption) (by assumption) (by decide)) (fun M' hM' => ?_) | refine r_letM (Rv_16 (by assumption) (by assumption) (by assumption)) (fun M' hM' => ?_) | refine f_letI (fun v => ?_) | refine f_cs (fun x => ?_) (fun E => ?_) | refine r_letM (Rv_cp (by assumption) (by assumption) ?_) (fun M' hM' => ?_) | refine r_letM (by assumption) (fun M' hM' => ?_)  | refine r_bindF (by assumption) (by assumption) (by decide) (fun j hj => ?_) | refine r_bindA (by assumption) (by assumption) (by decide) (by assumption) (fun j hj => ?_) | refine r_bindN (fun j => ?_) | refine f_some ?_ | assumption | exact nj_k (by assumption) (by assumption) (by decide) | exact h00 | refine Rv_ua (by assumption) (by assumption) ?_ | refine Rv_uf (by assumption) (by assumption) (by decide) | exact Rv_16 (by assumption) (by assumption) (by assumption) | refine Rv_cp (by assumption) (by assumption) ?_ | exact Int32.le_refl _ | exact Rv_le (by assumption) (by assumption) (by assumption) | apply And.intro))
set_option maxRecDepth 100000 in
set_option maxHeartbeats 4000000 in
theorem rv_fX2_isWrong (h00 : nj 0) : ∀ (n : Nat) (pc : Nat) (r0 : Nat) (r1 : Nat) (r2 : Nat) (x3 : Int32) (x4 : Int32) (M : ao_M) (ρ : ao_H), Rv B1 B2 0 M ρ → nj r0 → nj r1 → nj r2 → ∀ z, fX2_isWrong n pc r0 r1 r2 x3 x4 M ρ = some z → Rv B1 B2 0 z.2 ρ := by
  intro n
  induction n with
  | zero => intros; exact absurd (by assumption) (by simp [fX2_isWrong.eq_1])
  | succ n ih =>
    intro pc r0 r1 r2 x3 x4 M ρ hI h_r0 h_r1 h_r2
    rw [fX2_isWrong.eq_2]
    repeat' (with_reducible (first | exact f_none | refine f_ite (fun hc => ?_) (fun hc => ?_) | refine r_letM (Rv_ua (by assumption) (by assumption) ?_) (fun M' hM' => ?_) | refine r_letM (Rv_uf (by assumption) (by assumption) (by decide)) (fun M' hM' => ?_) | refine r_letM (Rv_16 (by assumption) (by assumption) (by assumption)) (fun M' hM' => ?_) | refine f_letI (fun v => ?_) | refine f_cs (fun x => ?_) (fun E => ?_) | refine r_letM (Rv_cp (by assumption) (by assumption) ?_) (fun M' hM' => ?_) | refine r_letM (by assumption) (fun M' hM' => ?_) | refine ih _ _ _ _ _ _ _ _ (by assumption) ?_ ?_ ?_ | refine ih _ _ _ _ _ _ _ _ ?_ ?_ ?_ ?_ | refine f_bind (ih _ _ _ _ _ _ _ _ (by assumption) ?_ ?_ ?_) (fun y hy => ?_) | refine f_bind (rv_gX5_isTakenByOther h00 (by assumption) ?_) (fun y hy => ?_)  | refine r_bindF (by assumption) (by assumption) (by decide) (fun j hj => ?_) | refine r_bindA (by assumption) (by assumption) (by decide) (by assumption) (fun j hj => ?_) | refine r_bindN (fun j => ?_) | refine f_some ?_ | assumption | exact nj_k (by assumption) (by assumption) (by decide) | exact h00 | refine Rv_ua (by assumption) (by assumption) ?_ | refine Rv_uf (by assumption) (by assumption) (by decide) | exact Rv_16 (by assumption) (by assumption) (by assumption) | refine Rv_cp (by assumption) (by assumption) ?_ | exact Int32.le_refl _ | exact Rv_le (by assumption) (by assumption) (by assumption) | apply And.intro))
set_option maxRecDepth 100000 in
set_option maxHeartbeats 4000000 in
theorem rv_gX2_isWrong (h00 : nj 0) {n : Nat} {r0 : Nat} {r1 : Nat} {r2 : Nat} {x3 : Int32} {M : ao_M} {ρ : ao_H} (hI : Rv B1 B2 0 M ρ) (h_r0 : nj r0) (h_r1 : nj r1) (h_r2 : nj r2) : ∀ z, gX2_isWrong n r0 r1 r2 x3 M ρ = some z → Rv B1 B2 0 z.2 ρ := by
  unfold gX2_isWrong
  exact rv_fX2_isWrong h00 _ _ _ _ _ _ _ _ _ hI (by first | assumption | exact h00) (by first | assumption | exact h00) (by first | assumption | exact h00)
set_option maxRecDepth 100000 in
set_option maxHeartbeats 4000000 in
theorem rv_fX2_outermostWrong (h00 : nj 0) : ∀ (n : Nat) (pc : Nat) (r0 : Nat) (r1 : Nat) (x2 : Int32) (r3 : Nat) (x4 : Int32) (M : ao_M) (ρ : ao_H), Rv B1 B2 0 M ρ → nj r0 → nj r1 → nj r3 → ∀ z, fX2_outermostWrong n pc r0 r1 x2 r3 x4 M ρ = some z → Rv B1 B2 0 z.2 ρ := by
  intro n
  induction n with
  | zero => intros; exact absurd (by assumption) (by simp [fX2_outermostWrong.eq_1])
  | succ n ih =>
    intro pc r0 r1 x2 r3 x4 M ρ hI h_r0 h_r1 h_r3
    rw [fX2_outermostWrong.eq_2]
    repeat' (with_reducible (first | exact f_none | refine f_ite (fun hc => ?_) (fun hc => ?_) | refine r_letM (Rv_ua (by assumption) (by assumption) ?_) (fun M' hM' => ?_) | refine r_letM (Rv_uf (by assumption) (by assumption) (by decide)) (fun M' hM' => ?_) | refine r_letM (Rv_16 (by assumption) (by assumption) (by assumption)) (fun M' hM' => ?_) | refine f_letI (fun v => ?_) | refine f_cs (fun x => ?_) (fun E => ?_) | refine r_letM (Rv_cp (by assumption) (by assumption) ?_) (fun M' hM' => ?_) | refine r_letM (by assumption) (fun M' hM' => ?_) | refine ih _ _ _ _ _ _ _ _ (by assumption) ?_ ?_ ?_ | refine ih _ _ _ _ _ _ _ _ ?_ ?_ ?_ ?_ | refine f_bind (ih _ _ _ _ _ _ _ _ (by assumption) ?_ ?_ ?_) (fun y hy => ?_) | refine f_bind2 (rv_gX7_level h00 (by assumption) ?_) (fun y hy1 hy2 => ?_) | refine f_bind (rv_gX2_isWrong h00 (by assumption) ?_ ?_ ?_) (fun y hy => ?_)  | refine r_bindF (by assumption) (by assumption) (by decide) (fun j hj => ?_) | refine r_bindA (by assumption) (by assumption) (by decide) (by assumption) (fun j hj => ?_) | refine r_bindN (fun j => ?_) | refine f_some ?_ | assumption | exact nj_k (by assumption) (by assumption) (by decide) | exact h00 | refine Rv_ua (by assumption) (by assumption) ?_ | refine Rv_uf (by assumption) (by assumption) (by decide) | exact Rv_16 (by assumption) (by assumption) (by assumption) | refine Rv_cp (by assumption) (by assumption) ?_ | exact Int32.le_refl _ | exact Rv_le (by assumption) (by assumption) (by assumption) | apply And.intro))
set_option maxRecDepth 100000 in
set_option maxHeartbeats 4000000 in
theorem rv_gX2_outermostWrong (h00 : nj 0) {n : Nat} {r0 : Nat} {r1 : Nat} {M : ao_M} {ρ : ao_H} (hI : Rv B1 B2 0 M ρ) (h_r0 : nj r0) (h_r1 : nj r1) : ∀ z, gX2_outermostWrong n r0 r1 M ρ = some z → Rv B1 B2 0 z.2 ρ := by
  unfold gX2_outermostWrong
  exact rv_fX2_outermostWrong h00 _ _ _ _ _ _ _ _ _ hI (by first | assumption | exact h00) (by first | assumption | exact h00) (by first | assumption | exact h00)
set_option maxRecDepth 100000 in
set_option maxHeartbeats 4000000 in
theorem rv_fX5_valueAt (h00 : nj 0) : ∀ (n : Nat) (pc : Nat) (r0 : Nat) (x1 : Int32) (x2 : Int32) (x3 : Int32) (x4 : Int32) (M : ao_M) (ρ : ao_H), Rv B1 B2 0 M ρ → nj r0 → ∀ z, fX5_valueAt n pc r0 x1 x2 x3 x4 M ρ = some z → Rv B1 B2 0 z.2 ρ := by
  intro n
  induction n with
  | zero => intros; exact absurd (by assumption) (by simp [fX5_valueAt.eq_1])
  | succ n ih =>
    intro pc r0 x1 x2 x3 x4 M ρ hI h_r0
    rw [fX5_valueAt.eq_2]
    repeat' (with_reducible (first | exact f_none | refine f_ite (fun hc => ?_) (fun hc => ?_) | refine r_letM (Rv_ua (by assumption) (by assumption) ?_) (fun M' hM' => ?_) | refine r_letM (Rv_uf (by assumption) (by assumption) (by decide)) (fun M' hM' => ?_) | refine r_letM (Rv_16 (by assumption) (by assumption) (by assumption)) (fun M' hM' => ?_) | refine f_letI (fun v => ?_) | refine f_cs (fun x => ?_) (fun E => ?_) | refine r_letM (Rv_cp (by assumption) (by assumption) ?_) (fun M' hM' => ?_) | refine r_letM (by assumption) (fun M' hM' => ?_) | refine ih _ _ _ _ _ _ _ _ (by assumption) ?_ | refine ih _ _ _ _ _ _ _ _ ?_ ?_ | refine f_bind (ih _ _ _ _ _ _ _ _ (by assumption) ?_) (fun y hy => ?_)  | refine r_bindF (by assumption) (by assumption) (by decide) (fun j hj => ?_) | refine r_bindA (by assumption) (by assumption) (by decide) (by assumption) (fun j hj => ?_) | refine r_bindN (fun j => ?_) | refine f_some ?_ | assumption | exact nj_k (by assumption) (by assumption) (by decide) | exact h00 | refine Rv_ua (by assumption) (by assumption) ?_ | refine Rv_uf (by assumption) (by assumption) (by decide) | exact Rv_16 (by assumption) (by assumption) (by assumption) | refine Rv_cp (by assumption) (by assumption) ?_ | exact Int32.le_refl _ | exact Rv_le (by assumption) (by assumption) (by assumption) | apply And.intro))
set_option maxRecDepth 100000 in
set_option maxHeartbeats 4000000 in
theorem rv_gX5_valueAt (h00 : nj 0) {n : Nat} {r0 : Nat} {x1 : Int32} {x2 : Int32} {M : ao_M} {ρ : ao_H} (hI : Rv B1 B2 0 M ρ) (h_r0 : nj r0) : ∀ z, gX5_valueAt n r0 x1 x2 M ρ = some z → Rv B1 B2 0 z.2 ρ := by
  unfold gX5_valueAt
  exact rv_fX5_valueAt h00 _ _ _ _ _ _ _ _ _ hI (by first | assumption | exact h00)
set_option maxRecDepth 100000 in
set_option maxHeartbeats 4000000 in
theorem rv_gX7_innermost (h00 : nj 0) {n : Nat} {r0 : Nat} {M : ao_M} {ρ : ao_H} (hI : Rv B1 B2 0 M ρ) (h_r0 : nj r0) : ∀ z, gX7_innermost n r0 M ρ = some z → (Rv B1 B2 0 z.2 ρ ∧ nj z.1) := by
  unfold gX7_innermost
  repeat' (with_reducible (first | exact f_none | refine f_ite (fun hc => ?_) (fun hc => ?_) | refine r_letM (Rv_ua (by assumption) (by assumption) ?_) (fun M' hM' => ?_) | refine r_letM (Rv_uf (by assumption) (by assumption) (by decide)) (fun M' hM' => ?_) | refine r_letM (Rv_16 (by assumption) (by assumption) (by assumption)) (fun M' hM' => ?_) | refine f_letI (fun v => ?_) | refine f_cs (fun x => ?_) (fun E => ?_) | refine r_letM (Rv_cp (by assumption) (by assumption) ?_) (fun M' hM' => ?_) | refine r_letM (by assumption) (fun M' hM' => ?_) | refine f_bind2 (rv_gX7_level h00 (by assumption) ?_) (fun y hy1 hy2 => ?_)  | refine r_bindF (by assumption) (by assumption) (by decide) (fun j hj => ?_) | refine r_bindA (by assumption) (by assumption) (by decide) (by assumption) (fun j hj => ?_) | refine r_bindN (fun j => ?_) | refine f_some ?_ | assumption | exact nj_k (by assumption) (by assumption) (by decide) | exact h00 | refine Rv_ua (by assumption) (by assumption) ?_ | refine Rv_uf (by assumption) (by assumption) (by decide) | exact Rv_16 (by assumption) (by assumption) (by assumption) | refine Rv_cp (by assumption) (by assumption) ?_ | exact Int32.le_refl _ | exact Rv_le (by assumption) (by assumption) (by assumption) | apply And.intro))
set_option maxRecDepth 100000 in
set_option maxHeartbeats 4000000 in
theorem rv_gX3_addRead (h00 : nj 0) {r0 : Nat} {x1 : Int32} {x2 : Int32} {x3 : Int32} {M : ao_M} {ρ : ao_H} (hI : Rv B1 B2 0 M ρ) (h_r0 : nj r0) : ∀ z, gX3_addRead r0 x1 x2 x3 M ρ = some z → Rv B1 B2 0 z ρ := by
  unfold gX3_addRead
  repeat' (with_reducible (first | exact f_none | refine f_ite (fun hc => ?_) (fun hc => ?_) | refine r_letM (Rv_ua (by assumption) (by assumption) ?_) (fun M' hM' => ?_) | refine r_letM (Rv_uf (by assumption) (by assumption) (by decide)) (fun M' hM' => ?_) | refine r_letM (Rv_16 (by assumption) (by assumption) (by assumption)) (fun M' hM' => ?_) | refine f_letI (fun v => ?_) | refine f_cs (fun x => ?_) (fun E => ?_) | refine r_letM (Rv_cp (by assumption) (by assumption) ?_) (fun M' hM' => ?_) | refine r_letM (by assumption) (fun M' hM' => ?_)  | refine r_bindF (by assumption) (by assumption) (by decide) (fun j hj => ?_) | refine r_bindA (by assumption) (by assumption) (by decide) (by assumption) (fun j hj => ?_) | refine r_bindN (fun j => ?_) | refine f_some ?_ | assumption | exact nj_k (by assumption) (by assumption) (by decide) | exact h00 | refine Rv_ua (by assumption) (by assumption) ?_ | refine Rv_uf (by assumption) (by assumption) (by decide) | exact Rv_16 (by assumption) (by assumption) (by assumption) | refine Rv_cp (by assumption) (by assumption) ?_ | exact Int32.le_refl _ | exact Rv_le (by assumption) (by assumption) (by assumption) | apply And.intro))
set_option maxRecDepth 100000 in
set_option maxHeartbeats 4000000 in
theorem rv_fX2_seeHeld (h00 : nj 0) : ∀ (n : Nat) (pc : Nat) (r0 : Nat) (r1 : Nat) (x2 : Int32) (x3 : Int32) (x4 : Int32) (s0 : Int32) (q1 : Nat) (q2 : Nat) (M : ao_M) (ρ : ao_H), Rv B1 B2 0 M ρ → nj r0 → nj r1 → nj q1 → nj q2 → ∀ z, fX2_seeHeld n pc r0 r1 x2 x3 x4 s0 q1 q2 M ρ = some z → Rv B1 B2 0 z.2.1 z.2.2 := by
  intro n
  induction n with
  | zero => intros; exact absurd (by assumption) (by simp [fX2_seeHeld.eq_1])
  | succ n ih =>
    intro pc r0 r1 x2 x3 x4 s0 q1 q2 M ρ hI h_r0 h_r1 h_q1 h_q2
    rw [fX2_seeHeld.eq_2]
    repeat' (with_reducible (first | exact f_none | refine f_ite (fun hc => ?_) (fun hc => ?_) | refine r_letM (Rv_ua (by assumption) (by assumption) ?_) (fun M' hM' => ?_) | refine r_letM (Rv_uf (by assumption) (by assumption) (by decide)) (fun M' hM' => ?_) | refine r_letM (Rv_16 (by assumption) (by assumption) (by assumption)) (fun M' hM' => ?_) | refine f_letI (fun v => ?_) | refine f_cs (fun x => ?_) (fun E => ?_) | refine r_letM (Rv_cp (by assumption) (by assumption) ?_) (fun M' hM' => ?_) | refine r_letM (by assumption) (fun M' hM' => ?_) | refine ih _ _ _ _ _ _ _ _ _ _ _ (by assumption) ?_ ?_ ?_ ?_ | refine ih _ _ _ _ _ _ _ _ _ _ _ ?_ ?_ ?_ ?_ ?_ | refine f_bind (ih _ _ _ _ _ _ _ _ _ _ _ (by assumption) ?_ ?_ ?_ ?_) (fun y hy => ?_) | refine f_bind2 (rv_gX7_level h00 (by assumption) ?_) (fun y hy1 hy2 => ?_) | refine f_bind (rv_gX3_wrote h00 (by assumption) ?_) (fun y hy => ?_) | refine f_bind (rv_gX7_push h00 (by assumption) ?_) (fun y hy => ?_) | refine f_bind (rv_gX2_outermostWrong h00 (by assumption) ?_ ?_) (fun y hy => ?_) | refine f_bind (rv_gX2_restart h00 (by assumption) ?_ ?_) (fun y hy => ?_) | refine f_bind (rv_gX5_valueAt h00 (by assumption) ?_) (fun y hy => ?_) | refine f_bind2 (rv_gX7_innermost h00 (by assumption) ?_) (fun y hy1 hy2 => ?_) | refine f_bind (rv_gX3_addRead h00 (by assumption) ?_) (fun y hy => ?_)  | refine r_bindF (by assumption) (by assumption) (by decide) (fun j hj => ?_) | refine r_bindA (by assumption) (by assumption) (by decide) (by assumption) (fun j hj => ?_) | refine r_bindN (fun j => ?_) | refine f_some ?_ | assumption | exact nj_k (by assumption) (by assumption) (by decide) | exact h00 | refine Rv_ua (by assumption) (by assumption) ?_ | refine Rv_uf (by assumption) (by assumption) (by decide) | exact Rv_16 (by assumption) (by assumption) (by assumption) | refine Rv_cp (by assumption) (by assumption) ?_ | exact Int32.le_refl _ | exact Rv_le (by assumption) (by assumption) (by assumption) | apply And.intro))
set_option maxRecDepth 100000 in
set_option maxHeartbeats 4000000 in
theorem rv_gX2_seeHeld (h00 : nj 0) {n : Nat} {r0 : Nat} {r1 : Nat} {x2 : Int32} {M : ao_M} {ρ : ao_H} (hI : Rv B1 B2 0 M ρ) (h_r0 : nj r0) (h_r1 : nj r1) : ∀ z, gX2_seeHeld n r0 r1 x2 M ρ = some z → Rv B1 B2 0 z.2.1 z.2.2 := by
  unfold gX2_seeHeld
  exact rv_fX2_seeHeld h00 _ _ _ _ _ _ _ _ _ _ _ _ hI (by first | assumption | exact h00) (by first | assumption | exact h00) (by first | assumption | exact h00) (by first | assumption | exact h00)
set_option maxRecDepth 100000 in
set_option maxHeartbeats 4000000 in
theorem rv_fX6_note (h00 : nj 0) : ∀ (n : Nat) (pc : Nat) (r0 : Nat) (r1 : Nat) (r2 : Nat) (r3 : Nat) (x4 : Int32) (x5 : Int32) (x6 : Int32) (x7 : Int32) (M : ao_M) (ρ : ao_H), Rv B1 B2 0 M ρ → nj r0 → nj r1 → nj r2 → nj r3 → ∀ z, fX6_note n pc r0 r1 r2 r3 x4 x5 x6 x7 M ρ = some z → Rv B1 B2 0 z ρ := by
  intro n
  induction n with
  | zero => intros; exact absurd (by assumption) (by simp [fX6_note.eq_1])
  | succ n ih =>
    intro pc r0 r1 r2 r3 x4 x5 x6 x7 M ρ hI h_r0 h_r1 h_r2 h_r3
    rw [fX6_note.eq_2]
    repeat' (with_reducible (first | exact f_none | refine f_ite (fun hc => ?_) (fun hc => ?_) | refine r_letM (Rv_ua (by assumption) (by assumption) ?_) (fun M' hM' => ?_) | refine r_letM (Rv_uf (by assumption) (by assumption) (by decide)) (fun M' hM' => ?_) | refine r_letM (Rv_16 (by assumption) (by assumption) (by assumption)) (fun M' hM' => ?_) | refine f_letI (fun v => ?_) | refine f_cs (fun x => ?_) (fun E => ?_) | refine r_letM (Rv_cp (by assumption) (by assumption) ?_) (fun M' hM' => ?_) | refine r_letM (by assumption) (fun M' hM' => ?_) | refine ih _ _ _ _ _ _ _ _ _ _ _ (by assumption) ?_ ?_ ?_ ?_ | refine ih _ _ _ _ _ _ _ _ _ _ _ ?_ ?_ ?_ ?_ ?_ | refine f_bind (ih _ _ _ _ _ _ _ _ _ _ _ (by assumption) ?_ ?_ ?_ ?_) (fun y hy => ?_)  | refine r_bindF (by assumption) (by assumption) (by decide) (fun j hj => ?_) | refine r_bindA (by assumption) (by assumption) (by decide) (by assumption) (fun j hj => ?_) | refine r_bindN (fun j => ?_) | refine f_some ?_ | assumption | exact nj_k (by assumption) (by assumption) (by decide) | exact h00 | refine Rv_ua (by assumption) (by assumption) ?_ | refine Rv_uf (by assumption) (by assumption) (by decide) | exact Rv_16 (by assumption) (by assumption) (by assumption) | refine Rv_cp (by assumption) (by assumption) ?_ | exact Int32.le_refl _ | exact Rv_le (by assumption) (by assumption) (by assumption) | apply And.intro))
set_option maxRecDepth 100000 in
set_option maxHeartbeats 4000000 in
theorem rv_gX6_note (h00 : nj 0) {n : Nat} {r0 : Nat} {r1 : Nat} {r2 : Nat} {r3 : Nat} {x4 : Int32} {x5 : Int32} {M : ao_M} {ρ : ao_H} (hI : Rv B1 B2 0 M ρ) (h_r0 : nj r0) (h_r1 : nj r1) (h_r2 : nj r2) (h_r3 : nj r3) : ∀ z, gX6_note n r0 r1 r2 r3 x4 x5 M ρ = some z → Rv B1 B2 0 z ρ := by
  unfold gX6_note
  exact rv_fX6_note h00 _ _ _ _ _ _ _ _ _ _ _ _ hI (by first | assumption | exact h00) (by first | assumption | exact h00) (by first | assumption | exact h00) (by first | assumption | exact h00)
set_option maxRecDepth 100000 in
set_option maxHeartbeats 4000000 in
theorem rv_gX6_addRead (h00 : nj 0) {n : Nat} {r0 : Nat} {x1 : Int32} {x2 : Int32} {M : ao_M} {ρ : ao_H} (hI : Rv B1 B2 0 M ρ) (h_r0 : nj r0) : ∀ z, gX6_addRead n r0 x1 x2 M ρ = some z → Rv B1 B2 0 z ρ := by
  unfold gX6_addRead
  repeat' (with_reducible (first | exact f_none | refine f_ite (fun hc => ?_) (fun hc => ?_) | refine r_letM (Rv_ua (by assumption) (by assumption) ?_) (fun M' hM' => ?_) | refine r_letM (Rv_uf (by assumption) (by assumption) (by decide)) (fun M' hM' => ?_) | refine r_letM (Rv_16 (by assumption) (by assumption) (by assumption)) (fun M' hM' => ?_) | refine f_letI (fun v => ?_) | refine f_cs (fun x => ?_) (fun E => ?_) | refine r_letM (Rv_cp (by assumption) (by assumption) ?_) (fun M' hM' => ?_) | refine r_letM (by assumption) (fun M' hM' => ?_) | refine f_bind (rv_gX6_note h00 (by assumption) ?_ ?_ ?_ ?_) (fun y hy => ?_)  | refine r_bindF (by assumption) (by assumption) (by decide) (fun j hj => ?_) | refine r_bindA (by assumption) (by assumption) (by decide) (by assumption) (fun j hj => ?_) | refine r_bindN (fun j => ?_) | refine f_some ?_ | assumption | exact nj_k (by assumption) (by assumption) (by decide) | exact h00 | refine Rv_ua (by assumption) (by assumption) ?_ | refine Rv_uf (by assumption) (by assumption) (by decide) | exact Rv_16 (by assumption) (by assumption) (by assumption) | refine Rv_cp (by assumption) (by assumption) ?_ | exact Int32.le_refl _ | exact Rv_le (by assumption) (by assumption) (by assumption) | apply And.intro))
set_option maxRecDepth 100000 in
set_option maxHeartbeats 4000000 in
theorem rv_gX5_isTakenBy (h00 : nj 0) {r0 : Nat} {x1 : Int32} {x2 : Int32} {M : ao_M} {ρ : ao_H} (hI : Rv B1 B2 0 M ρ) (h_r0 : nj r0) : ∀ z, gX5_isTakenBy r0 x1 x2 M ρ = some z → Rv B1 B2 0 z.2 ρ := by
  unfold gX5_isTakenBy
  repeat' (with_reducible (first | exact f_none | refine f_ite (fun hc => ?_) (fun hc => ?_) | refine r_letM (Rv_ua (by assumption) (by assumption) ?_) (fun M' hM' => ?_) | refine r_letM (Rv_uf (by assumption) (by assumption) (by decide)) (fun M' hM' => ?_) | refine r_letM (Rv_16 (by assumption) (by assumption) (by assumption)) (fun M' hM' => ?_) | refine f_letI (fun v => ?_) | refine f_cs (fun x => ?_) (fun E => ?_) | refine r_letM (Rv_cp (by assumption) (by assumption) ?_) (fun M' hM' => ?_) | refine r_letM (by assumption) (fun M' hM' => ?_)  | refine r_bindF (by assumption) (by assumption) (by decide) (fun j hj => ?_) | refine r_bindA (by assumption) (by assumption) (by decide) (by assumption) (fun j hj => ?_) | refine r_bindN (fun j => ?_) | refine f_some ?_ | assumption | exact nj_k (by assumption) (by assumption) (by decide) | exact h00 | refine Rv_ua (by assumption) (by assumption) ?_ | refine Rv_uf (by assumption) (by assumption) (by decide) | exact Rv_16 (by assumption) (by assumption) (by assumption) | refine Rv_cp (by assumption) (by assumption) ?_ | exact Int32.le_refl _ | exact Rv_le (by assumption) (by assumption) (by assumption) | apply And.intro))
set_option maxRecDepth 100000 in
set_option maxHeartbeats 4000000 in
theorem rv_gX2_loserAbout (h00 : nj 0) {r0 : Nat} {r1 : Nat} {x2 : Int32} {M : ao_M} {ρ : ao_H} (hI : Rv B1 B2 0 M ρ) (h_r0 : nj r0) (h_r1 : nj r1) : ∀ z, gX2_loserAbout r0 r1 x2 M ρ = some z → Rv B1 B2 0 z.2 ρ := by
  unfold gX2_loserAbout
  repeat' (with_reducible (first | exact f_none | refine f_ite (fun hc => ?_) (fun hc => ?_) | refine r_letM (Rv_ua (by assumption) (by assumption) ?_) (fun M' hM' => ?_) | refine r_letM (Rv_uf (by assumption) (by assumption) (by decide)) (fun M' hM' => ?_) | refine r_letM (Rv_16 (by assumption) (by assumption) (by assumption)) (fun M' hM' => ?_) | refine f_letI (fun v => ?_) | refine f_cs (fun x => ?_) (fun E => ?_) | refine r_letM (Rv_cp (by assumption) (by assumption) ?_) (fun M' hM' => ?_) | refine r_letM (by assumption) (fun M' hM' => ?_) | refine f_bind (rv_gX5_isTakenByOther h00 (by assumption) ?_) (fun y hy => ?_)  | refine r_bindF (by assumption) (by assumption) (by decide) (fun j hj => ?_) | refine r_bindA (by assumption) (by assumption) (by decide) (by assumption) (fun j hj => ?_) | refine r_bindN (fun j => ?_) | refine f_some ?_ | assumption | exact nj_k (by assumption) (by assumption) (by decide) | exact h00 | refine Rv_ua (by assumption) (by assumption) ?_ | refine Rv_uf (by assumption) (by assumption) (by decide) | exact Rv_16 (by assumption) (by assumption) (by assumption) | refine Rv_cp (by assumption) (by assumption) ?_ | exact Int32.le_refl _ | exact Rv_le (by assumption) (by assumption) (by assumption) | apply And.intro))
set_option maxRecDepth 100000 in
set_option maxHeartbeats 4000000 in
theorem rv_fX2_mayTouch (h00 : nj 0) : ∀ (n : Nat) (pc : Nat) (r0 : Nat) (r1 : Nat) (x2 : Int32) (x3 : Int32) (x4 : Int32) (M : ao_M) (ρ : ao_H), Rv B1 B2 0 M ρ → nj r0 → nj r1 → ∀ z, fX2_mayTouch n pc r0 r1 x2 x3 x4 M ρ = some z → Rv B1 B2 0 z.2.1 z.2.2 := by
  intro n
  induction n with
  | zero => intros; exact absurd (by assumption) (by simp [fX2_mayTouch.eq_1])
  | succ n ih =>
    intro pc r0 r1 x2 x3 x4 M ρ hI h_r0 h_r1
    rw [fX2_mayTouch.eq_2]
    repeat' (with_reducible (first | exact f_none | refine f_ite (fun hc => ?_) (fun hc => ?_) | refine r_letM (Rv_ua (by assumption) (by assumption) ?_) (fun M' hM' => ?_) | refine r_letM (Rv_uf (by assumption) (by assumption) (by decide)) (fun M' hM' => ?_) | refine r_letM (Rv_16 (by assumption) (by assumption) (by assumption)) (fun M' hM' => ?_) | refine f_letI (fun v => ?_) | refine f_cs (fun x => ?_) (fun E => ?_) | refine r_letM (Rv_cp (by assumption) (by assumption) ?_) (fun M' hM' => ?_) | refine r_letM (by assumption) (fun M' hM' => ?_) | refine ih _ _ _ _ _ _ _ _ (by assumption) ?_ ?_ | refine ih _ _ _ _ _ _ _ _ ?_ ?_ ?_ | refine f_bind (ih _ _ _ _ _ _ _ _ (by assumption) ?_ ?_) (fun y hy => ?_) | refine f_bind (rv_gX2_loserAbout h00 (by assumption) ?_ ?_) (fun y hy => ?_) | refine f_bind (rv_gX2_restart h00 (by assumption) ?_ ?_) (fun y hy => ?_) | refine f_bind (rv_gX2_outermostWrong h00 (by assumption) ?_ ?_) (fun y hy => ?_)  | refine r_bindF (by assumption) (by assumption) (by decide) (fun j hj => ?_) | refine r_bindA (by assumption) (by assumption) (by decide) (by assumption) (fun j hj => ?_) | refine r_bindN (fun j => ?_) | refine f_some ?_ | assumption | exact nj_k (by assumption) (by assumption) (by decide) | exact h00 | refine Rv_ua (by assumption) (by assumption) ?_ | refine Rv_uf (by assumption) (by assumption) (by decide) | exact Rv_16 (by assumption) (by assumption) (by assumption) | refine Rv_cp (by assumption) (by assumption) ?_ | exact Int32.le_refl _ | exact Rv_le (by assumption) (by assumption) (by assumption) | apply And.intro))
set_option maxRecDepth 100000 in
set_option maxHeartbeats 4000000 in
theorem rv_gX2_mayTouch (h00 : nj 0) {n : Nat} {r0 : Nat} {r1 : Nat} {x2 : Int32} {M : ao_M} {ρ : ao_H} (hI : Rv B1 B2 0 M ρ) (h_r0 : nj r0) (h_r1 : nj r1) : ∀ z, gX2_mayTouch n r0 r1 x2 M ρ = some z → Rv B1 B2 0 z.2.1 z.2.2 := by
  unfold gX2_mayTouch
  exact rv_fX2_mayTouch h00 _ _ _ _ _ _ _ _ _ hI (by first | assumption | exact h00) (by first | assumption | exact h00)
set_option maxRecDepth 100000 in
set_option maxHeartbeats 4000000 in
theorem rv_fX2_see (h00 : nj 0) : ∀ (n : Nat) (pc : Nat) (r0 : Nat) (r1 : Nat) (x2 : Int32) (s0 : Int32) (M : ao_M) (ρ : ao_H), Rv B1 B2 0 M ρ → nj r0 → nj r1 → ∀ z, fX2_see n pc r0 r1 x2 s0 M ρ = some z → Rv B1 B2 0 z.2.1 z.2.2 := by
  intro n
  induction n with
  | zero => intros; exact absurd (by assumption) (by simp [fX2_see.eq_1])
  | succ n ih =>
    intro pc r0 r1 x2 s0 M ρ hI h_r0 h_r1
    rw [fX2_see.eq_2]
    repeat' (with_reducible (first | exact f_none | refine f_ite (fun hc => ?_) (fun hc => ?_) | refine r_letM (Rv_ua (by assumption) (by assumption) ?_) (fun M' hM' => ?_) | refine r_letM (Rv_uf (by assumption) (by assumption) (by decide)) (fun M' hM' => ?_) | refine r_letM (Rv_16 (by assumption) (by assumption) (by assumption)) (fun M' hM' => ?_) | refine f_letI (fun v => ?_) | refine f_cs (fun x => ?_) (fun E => ?_) | refine r_letM (Rv_cp (by assumption) (by assumption) ?_) (fun M' hM' => ?_) | refine r_letM (by assumption) (fun M' hM' => ?_) | refine ih _ _ _ _ _ _ _ (by assumption) ?_ ?_ | refine ih _ _ _ _ _ _ _ ?_ ?_ ?_ | refine f_bind (ih _ _ _ _ _ _ _ (by assumption) ?_ ?_) (fun y hy => ?_) | refine f_bind (rv_gX2_writesAtOnce h00 (by assumption) ?_) (fun y hy => ?_) | refine f_bind (rv_gX2_seeHeld h00 (by assumption) ?_ ?_) (fun y hy => ?_) | refine f_bind (rv_gX6_begin (by assumption) ?_) (fun y hy => ?_) | refine f_bind (rv_gX6_addRead h00 (by assumption) ?_) (fun y hy => ?_) | refine f_bind (rv_gX5_isTakenBy h00 (by assumption) ?_) (fun y hy => ?_) | refine f_bind (rv_gX2_mayTouch h00 (by assumption) ?_ ?_) (fun y hy => ?_) | refine f_bind2 (rv_gX7_innermost h00 (by assumption) ?_) (fun y hy1 hy2 => ?_) | refine f_bind (rv_gX3_addRead h00 (by assumption) ?_) (fun y hy => ?_) | refine f_bind (rv_gX7_push h00 (by assumption) ?_) (fun y hy => ?_)  | refine r_bindF (by assumption) (by assumption) (by decide) (fun j hj => ?_) | refine r_bindA (by assumption) (by assumption) (by decide) (by assumption) (fun j hj => ?_) | refine r_bindN (fun j => ?_) | refine f_some ?_ | assumption | exact nj_k (by assumption) (by assumption) (by decide) | exact h00 | refine Rv_ua (by assumption) (by assumption) ?_ | refine Rv_uf (by assumption) (by assumption) (by decide) | exact Rv_16 (by assumption) (by assumption) (by assumption) | refine Rv_cp (by assumption) (by assumption) ?_ | exact Int32.le_refl _ | exact Rv_le (by assumption) (by assumption) (by assumption) | apply And.intro))
set_option maxRecDepth 100000 in
set_option maxHeartbeats 4000000 in
theorem rv_gX2_see (h00 : nj 0) {n : Nat} {r0 : Nat} {r1 : Nat} {x2 : Int32} {M : ao_M} {ρ : ao_H} (hI : Rv B1 B2 0 M ρ) (h_r0 : nj r0) (h_r1 : nj r1) : ∀ z, gX2_see n r0 r1 x2 M ρ = some z → Rv B1 B2 0 z.2.1 z.2.2 := by
  unfold gX2_see
  exact rv_fX2_see h00 _ _ _ _ _ _ _ _ hI (by first | assumption | exact h00) (by first | assumption | exact h00)
set_option maxRecDepth 100000 in
set_option maxHeartbeats 4000000 in
theorem rv_gX7_pop (h00 : nj 0) {r0 : Nat} {M : ao_M} {ρ : ao_H} (hI : Rv B1 B2 0 M ρ) (h_r0 : nj r0) : ∀ z, gX7_pop r0 M ρ = some z → Rv B1 B2 0 z.2 ρ := by
  unfold gX7_pop
  repeat' (with_reducible (first | exact f_none | refine f_ite (fun hc => ?_) (fun hc => ?_) | refine r_letM (Rv_ua (by assumption) (by assumption) ?_) (fun M' hM' => ?_) | refine r_letM (Rv_uf (by assumption) (by assumption) (by decide)) (fun M' hM' => ?_) | refine r_letM (Rv_16 (by assumption) (by assumption) (by assumption)) (fun M' hM' => ?_) | refine f_letI (fun v => ?_) | refine f_cs (fun x => ?_) (fun E => ?_) | refine r_letM (Rv_cp (by assumption) (by assumption) ?_) (fun M' hM' => ?_) | refine r_letM (by assumption) (fun M' hM' => ?_)  | refine r_bindF (by assumption) (by assumption) (by decide) (fun j hj => ?_) | refine r_bindA (by assumption) (by assumption) (by decide) (by assumption) (fun j hj => ?_) | refine r_bindN (fun j => ?_) | refine f_some ?_ | assumption | exact nj_k (by assumption) (by assumption) (by decide) | exact h00 | refine Rv_ua (by assumption) (by assumption) ?_ | refine Rv_uf (by assumption) (by assumption) (by decide) | exact Rv_16 (by assumption) (by assumption) (by assumption) | refine Rv_cp (by assumption) (by assumption) ?_ | exact Int32.le_refl _ | exact Rv_le (by assumption) (by assumption) (by assumption) | apply And.intro))
set_option maxRecDepth 100000 in
set_option maxHeartbeats 4000000 in
theorem rv_gX3_addWrite (h00 : nj 0) {r0 : Nat} {x1 : Int32} {x2 : Int32} {M : ao_M} {ρ : ao_H} (hI : Rv B1 B2 0 M ρ) (h_r0 : nj r0) : ∀ z, gX3_addWrite r0 x1 x2 M ρ = some z → Rv B1 B2 0 z ρ := by
  unfold gX3_addWrite
  repeat' (with_reducible (first | exact f_none | refine f_ite (fun hc => ?_) (fun hc => ?_) | refine r_letM (Rv_ua (by assumption) (by assumption) ?_) (fun M' hM' => ?_) | refine r_letM (Rv_uf (by assumption) (by assumption) (by decide)) (fun M' hM' => ?_) | refine r_letM (Rv_16 (by assumption) (by assumption) (by assumption)) (fun M' hM' => ?_) | refine f_letI (fun v => ?_) | refine f_cs (fun x => ?_) (fun E => ?_) | refine r_letM (Rv_cp (by assumption) (by assumption) ?_) (fun M' hM' => ?_) | refine r_letM (by assumption) (fun M' hM' => ?_)  | refine r_bindF (by assumption) (by assumption) (by decide) (fun j hj => ?_) | refine r_bindA (by assumption) (by assumption) (by decide) (by assumption) (fun j hj => ?_) | refine r_bindN (fun j => ?_) | refine f_some ?_ | assumption | exact nj_k (by assumption) (by assumption) (by decide) | exact h00 | refine Rv_ua (by assumption) (by assumption) ?_ | refine Rv_uf (by assumption) (by assumption) (by decide) | exact Rv_16 (by assumption) (by assumption) (by assumption) | refine Rv_cp (by assumption) (by assumption) ?_ | exact Int32.le_refl _ | exact Rv_le (by assumption) (by assumption) (by assumption) | apply And.intro))
set_option maxRecDepth 100000 in
set_option maxHeartbeats 4000000 in
theorem rv_gX6_addWrite (h00 : nj 0) {n : Nat} {r0 : Nat} {x1 : Int32} {x2 : Int32} {M : ao_M} {ρ : ao_H} (hI : Rv B1 B2 0 M ρ) (h_r0 : nj r0) : ∀ z, gX6_addWrite n r0 x1 x2 M ρ = some z → Rv B1 B2 0 z ρ := by
  unfold gX6_addWrite
  repeat' (with_reducible (first | exact f_none | refine f_ite (fun hc => ?_) (fun hc => ?_) | refine r_letM (Rv_ua (by assumption) (by assumption) ?_) (fun M' hM' => ?_) | refine r_letM (Rv_uf (by assumption) (by assumption) (by decide)) (fun M' hM' => ?_) | refine r_letM (Rv_16 (by assumption) (by assumption) (by assumption)) (fun M' hM' => ?_) | refine f_letI (fun v => ?_) | refine f_cs (fun x => ?_) (fun E => ?_) | refine r_letM (Rv_cp (by assumption) (by assumption) ?_) (fun M' hM' => ?_) | refine r_letM (by assumption) (fun M' hM' => ?_) | refine f_bind (rv_gX6_note h00 (by assumption) ?_ ?_ ?_ ?_) (fun y hy => ?_)  | refine r_bindF (by assumption) (by assumption) (by decide) (fun j hj => ?_) | refine r_bindA (by assumption) (by assumption) (by decide) (by assumption) (fun j hj => ?_) | refine r_bindN (fun j => ?_) | refine f_some ?_ | assumption | exact nj_k (by assumption) (by assumption) (by decide) | exact h00 | refine Rv_ua (by assumption) (by assumption) ?_ | refine Rv_uf (by assumption) (by assumption) (by decide) | exact Rv_16 (by assumption) (by assumption) (by assumption) | refine Rv_cp (by assumption) (by assumption) ?_ | exact Int32.le_refl _ | exact Rv_le (by assumption) (by assumption) (by assumption) | apply And.intro))
set_option maxRecDepth 100000 in
set_option maxHeartbeats 4000000 in
theorem rv_fX2_write (h00 : nj 0) : ∀ (n : Nat) (pc : Nat) (r0 : Nat) (r1 : Nat) (x2 : Int32) (x3 : Int32) (s0 : Int32) (M : ao_M) (ρ : ao_H), Rv B1 B2 0 M ρ → nj r0 → nj r1 → ∀ z, fX2_write n pc r0 r1 x2 x3 s0 M ρ = some z → Rv B1 B2 0 z.2.1 z.2.2 := by
  intro n
  induction n with
  | zero => intros; exact absurd (by assumption) (by simp [fX2_write.eq_1])
  | succ n ih =>
    intro pc r0 r1 x2 x3 s0 M ρ hI h_r0 h_r1
    rw [fX2_write.eq_2]
    repeat' (with_reducible (first | exact f_none | refine f_ite (fun hc => ?_) (fun hc => ?_) | refine r_letM (Rv_ua (by assumption) (by assumption) ?_) (fun M' hM' => ?_) | refine r_letM (Rv_uf (by assumption) (by assumption) (by decide)) (fun M' hM' => ?_) | refine r_letM (Rv_16 (by assumption) (by assumption) (by assumption)) (fun M' hM' => ?_) | refine f_letI (fun v => ?_) | refine f_cs (fun x => ?_) (fun E => ?_) | refine r_letM (Rv_cp (by assumption) (by assumption) ?_) (fun M' hM' => ?_) | refine r_letM (by assumption) (fun M' hM' => ?_) | refine ih _ _ _ _ _ _ _ _ (by assumption) ?_ ?_ | refine ih _ _ _ _ _ _ _ _ ?_ ?_ ?_ | refine f_bind (ih _ _ _ _ _ _ _ _ (by assumption) ?_ ?_) (fun y hy => ?_) | refine f_bind (rv_gX5_change (by assumption)) (fun y hy => ?_) | refine f_bind (rv_gX2_writesAtOnce h00 (by assumption) ?_) (fun y hy => ?_) | refine f_bind2 (rv_gX7_innermost h00 (by assumption) ?_) (fun y hy1 hy2 => ?_) | refine f_bind (rv_gX3_addWrite h00 (by assumption) ?_) (fun y hy => ?_) | refine f_bind (rv_gX2_mayTouch h00 (by assumption) ?_ ?_) (fun y hy => ?_) | refine f_bind (rv_gX6_begin (by assumption) ?_) (fun y hy => ?_) | refine f_bind (rv_gX6_addWrite h00 (by assumption) ?_) (fun y hy => ?_) | refine f_bind (rv_gX3_wrote h00 (by assumption) ?_) (fun y hy => ?_)  | refine r_bindF (by assumption) (by assumption) (by decide) (fun j hj => ?_) | refine r_bindA (by assumption) (by assumption) (by decide) (by assumption) (fun j hj => ?_) | refine r_bindN (fun j => ?_) | refine f_some ?_ | assumption | exact nj_k (by assumption) (by assumption) (by decide) | exact h00 | refine Rv_ua (by assumption) (by assumption) ?_ | refine Rv_uf (by assumption) (by assumption) (by decide) | exact Rv_16 (by assumption) (by assumption) (by assumption) | refine Rv_cp (by assumption) (by assumption) ?_ | exact Int32.le_refl _ | exact Rv_le (by assumption) (by assumption) (by assumption) | apply And.intro))
set_option maxRecDepth 100000 in
set_option maxHeartbeats 4000000 in
theorem rv_gX2_write (h00 : nj 0) {n : Nat} {r0 : Nat} {r1 : Nat} {x2 : Int32} {x3 : Int32} {M : ao_M} {ρ : ao_H} (hI : Rv B1 B2 0 M ρ) (h_r0 : nj r0) (h_r1 : nj r1) : ∀ z, gX2_write n r0 r1 x2 x3 M ρ = some z → Rv B1 B2 0 z.2.1 z.2.2 := by
  unfold gX2_write
  exact rv_fX2_write h00 _ _ _ _ _ _ _ _ _ hI (by first | assumption | exact h00) (by first | assumption | exact h00)
set_option maxRecDepth 100000 in
set_option maxHeartbeats 4000000 in
theorem rv_gX2_again (h00 : nj 0) {r0 : Nat} {x1 : Int32} {M : ao_M} {ρ : ao_H} (hI : Rv B1 B2 0 M ρ) (h_r0 : nj r0) : ∀ z, gX2_again r0 x1 M ρ = some z → Rv B1 B2 0 z.2 ρ := by
  unfold gX2_again
  repeat' (with_reducible (first | exact f_none | refine f_ite (fun hc => ?_) (fun hc => ?_) | refine r_letM (Rv_ua (by assumption) (by assumption) ?_) (fun M' hM' => ?_) | refine r_letM (Rv_uf (by assumption) (by assumption) (by decide)) (fun M' hM' => ?_) | refine r_letM (Rv_16 (by assumption) (by assumption) (by assumption)) (fun M' hM' => ?_) | refine f_letI (fun v => ?_) | refine f_cs (fun x => ?_) (fun E => ?_) | refine r_letM (Rv_cp (by assumption) (by assumption) ?_) (fun M' hM' => ?_) | refine r_letM (by assumption) (fun M' hM' => ?_) | refine f_bind (rv_gX7_pop h00 (by assumption) ?_) (fun y hy => ?_)  | refine r_bindF (by assumption) (by assumption) (by decide) (fun j hj => ?_) | refine r_bindA (by assumption) (by assumption) (by decide) (by assumption) (fun j hj => ?_) | refine r_bindN (fun j => ?_) | refine f_some ?_ | assumption | exact nj_k (by assumption) (by assumption) (by decide) | exact h00 | refine Rv_ua (by assumption) (by assumption) ?_ | refine Rv_uf (by assumption) (by assumption) (by decide) | exact Rv_16 (by assumption) (by assumption) (by assumption) | refine Rv_cp (by assumption) (by assumption) ?_ | exact Int32.le_refl _ | exact Rv_le (by assumption) (by assumption) (by assumption) | apply And.intro))
set_option maxRecDepth 100000 in
set_option maxHeartbeats 4000000 in
theorem rv_gX8_add (h00 : nj 0) {r0 : Nat} {x1 : Int32} {x2 : Int32} {M : ao_M} {ρ : ao_H} (hI : Rv B1 B2 0 M ρ) (h_r0 : nj r0) : ∀ z, gX8_add r0 x1 x2 M ρ = some z → Rv B1 B2 0 z ρ := by
  unfold gX8_add
  repeat' (with_reducible (first | exact f_none | refine f_ite (fun hc => ?_) (fun hc => ?_) | refine r_letM (Rv_ua (by assumption) (by assumption) ?_) (fun M' hM' => ?_) | refine r_letM (Rv_uf (by assumption) (by assumption) (by decide)) (fun M' hM' => ?_) | refine r_letM (Rv_16 (by assumption) (by assumption) (by assumption)) (fun M' hM' => ?_) | refine f_letI (fun v => ?_) | refine f_cs (fun x => ?_) (fun E => ?_) | refine r_letM (Rv_cp (by assumption) (by assumption) ?_) (fun M' hM' => ?_) | refine r_letM (by assumption) (fun M' hM' => ?_)  | refine r_bindF (by assumption) (by assumption) (by decide) (fun j hj => ?_) | refine r_bindA (by assumption) (by assumption) (by decide) (by assumption) (fun j hj => ?_) | refine r_bindN (fun j => ?_) | refine f_some ?_ | assumption | exact nj_k (by assumption) (by assumption) (by decide) | exact h00 | refine Rv_ua (by assumption) (by assumption) ?_ | refine Rv_uf (by assumption) (by assumption) (by decide) | exact Rv_16 (by assumption) (by assumption) (by assumption) | refine Rv_cp (by assumption) (by assumption) ?_ | exact Int32.le_refl _ | exact Rv_le (by assumption) (by assumption) (by assumption) | apply And.intro))
set_option maxRecDepth 100000 in
set_option maxHeartbeats 4000000 in
theorem rv_gX7_hold (h00 : nj 0) {r0 : Nat} {x1 : Int32} {M : ao_M} {ρ : ao_H} (hI : Rv B1 B2 0 M ρ) (h_r0 : nj r0) : ∀ z, gX7_hold r0 x1 M ρ = some z → Rv B1 B2 0 z ρ := by
  unfold gX7_hold
  repeat' (with_reducible (first | exact f_none | refine f_ite (fun hc => ?_) (fun hc => ?_) | refine r_letM (Rv_ua (by assumption) (by assumption) ?_) (fun M' hM' => ?_) | refine r_letM (Rv_uf (by assumption) (by assumption) (by decide)) (fun M' hM' => ?_) | refine r_letM (Rv_16 (by assumption) (by assumption) (by assumption)) (fun M' hM' => ?_) | refine f_letI (fun v => ?_) | refine f_cs (fun x => ?_) (fun E => ?_) | refine r_letM (Rv_cp (by assumption) (by assumption) ?_) (fun M' hM' => ?_) | refine r_letM (by assumption) (fun M' hM' => ?_)  | refine r_bindF (by assumption) (by assumption) (by decide) (fun j hj => ?_) | refine r_bindA (by assumption) (by assumption) (by decide) (by assumption) (fun j hj => ?_) | refine r_bindN (fun j => ?_) | refine f_some ?_ | assumption | exact nj_k (by assumption) (by assumption) (by decide) | exact h00 | refine Rv_ua (by assumption) (by assumption) ?_ | refine Rv_uf (by assumption) (by assumption) (by decide) | exact Rv_16 (by assumption) (by assumption) (by assumption) | refine Rv_cp (by assumption) (by assumption) ?_ | exact Int32.le_refl _ | exact Rv_le (by assumption) (by assumption) (by assumption) | apply And.intro))
set_option maxRecDepth 100000 in
set_option maxHeartbeats 4000000 in
theorem rv_gX2_say (h00 : nj 0) {r0 : Nat} {r1 : Nat} {x2 : Int32} {M : ao_M} {ρ : ao_H} (hI : Rv B1 B2 0 M ρ) (h_r0 : nj r0) (h_r1 : nj r1) : ∀ z, gX2_say r0 r1 x2 M ρ = some z → Rv B1 B2 0 z.2 ρ := by
  unfold gX2_say
  repeat' (with_reducible (first | exact f_none | refine f_ite (fun hc => ?_) (fun hc => ?_) | refine r_letM (Rv_ua (by assumption) (by assumption) ?_) (fun M' hM' => ?_) | refine r_letM (Rv_uf (by assumption) (by assumption) (by decide)) (fun M' hM' => ?_) | refine r_letM (Rv_16 (by assumption) (by assumption) (by assumption)) (fun M' hM' => ?_) | refine f_letI (fun v => ?_) | refine f_cs (fun x => ?_) (fun E => ?_) | refine r_letM (Rv_cp (by assumption) (by assumption) ?_) (fun M' hM' => ?_) | refine r_letM (by assumption) (fun M' hM' => ?_) | refine f_bind (rv_gX8_add h00 (by assumption) ?_) (fun y hy => ?_) | refine f_bind (rv_gX7_hold h00 (by assumption) ?_) (fun y hy => ?_)  | refine r_bindF (by assumption) (by assumption) (by decide) (fun j hj => ?_) | refine r_bindA (by assumption) (by assumption) (by decide) (by assumption) (fun j hj => ?_) | refine r_bindN (fun j => ?_) | refine f_some ?_ | assumption | exact nj_k (by assumption) (by assumption) (by decide) | exact h00 | refine Rv_ua (by assumption) (by assumption) ?_ | refine Rv_uf (by assumption) (by assumption) (by decide) | exact Rv_16 (by assumption) (by assumption) (by assumption) | refine Rv_cp (by assumption) (by assumption) ?_ | exact Int32.le_refl _ | exact Rv_le (by assumption) (by assumption) (by assumption) | apply And.intro))
set_option maxRecDepth 100000 in
set_option maxHeartbeats 4000000 in
theorem rv_gX7_enterLevel (h00 : nj 0) {n : Nat} {r0 : Nat} {x1 : Int32} {M : ao_M} {ρ : ao_H} (hI : Rv B1 B2 0 M ρ) (h_r0 : nj r0) : ∀ z, gX7_enterLevel n r0 x1 M ρ = some z → Rv B1 B2 0 z ρ := by
  unfold gX7_enterLevel
  repeat' (with_reducible (first | exact f_none | refine f_ite (fun hc => ?_) (fun hc => ?_) | refine r_letM (Rv_ua (by assumption) (by assumption) ?_) (fun M' hM' => ?_) | refine r_letM (Rv_uf (by assumption) (by assumption) (by decide)) (fun M' hM' => ?_) | refine r_letM (Rv_16 (by assumption) (by assumption) (by assumption)) (fun M' hM' => ?_) | refine f_letI (fun v => ?_) | refine f_cs (fun x => ?_) (fun E => ?_) | refine r_letM (Rv_cp (by assumption) (by assumption) ?_) (fun M' hM' => ?_) | refine r_letM (by assumption) (fun M' hM' => ?_) | refine f_bind2 (rv_gX7_level h00 (by assumption) ?_) (fun y hy1 hy2 => ?_) | refine f_bind (rv_gX3_forgetReads h00 (by assumption) ?_) (fun y hy => ?_) | refine f_bind (rv_gX3_forgetWrites h00 (by assumption) ?_) (fun y hy => ?_)  | refine r_bindF (by assumption) (by assumption) (by decide) (fun j hj => ?_) | refine r_bindA (by assumption) (by assumption) (by decide) (by assumption) (fun j hj => ?_) | refine r_bindN (fun j => ?_) | refine f_some ?_ | assumption | exact nj_k (by assumption) (by assumption) (by decide) | exact h00 | refine Rv_ua (by assumption) (by assumption) ?_ | refine Rv_uf (by assumption) (by assumption) (by decide) | exact Rv_16 (by assumption) (by assumption) (by assumption) | refine Rv_cp (by assumption) (by assumption) ?_ | exact Int32.le_refl _ | exact Rv_le (by assumption) (by assumption) (by assumption) | apply And.intro))
set_option maxRecDepth 100000 in
set_option maxHeartbeats 4000000 in
theorem rv_gX2_beginLevel (h00 : nj 0) {n : Nat} {r0 : Nat} {r1 : Nat} {x2 : Int32} {M : ao_M} {ρ : ao_H} (hI : Rv B1 B2 0 M ρ) (h_r0 : nj r0) (h_r1 : nj r1) : ∀ z, gX2_beginLevel n r0 r1 x2 M ρ = some z → Rv B1 B2 0 z.2 ρ := by
  unfold gX2_beginLevel
  repeat' (with_reducible (first | exact f_none | refine f_ite (fun hc => ?_) (fun hc => ?_) | refine r_letM (Rv_ua (by assumption) (by assumption) ?_) (fun M' hM' => ?_) | refine r_letM (Rv_uf (by assumption) (by assumption) (by decide)) (fun M' hM' => ?_) | refine r_letM (Rv_16 (by assumption) (by assumption) (by assumption)) (fun M' hM' => ?_) | refine f_letI (fun v => ?_) | refine f_cs (fun x => ?_) (fun E => ?_) | refine r_letM (Rv_cp (by assumption) (by assumption) ?_) (fun M' hM' => ?_) | refine r_letM (by assumption) (fun M' hM' => ?_) | refine f_bind (rv_gX2_isBusy h00 (by assumption) ?_ ?_) (fun y hy => ?_) | refine f_bind (rv_gX7_enterLevel h00 (by assumption) ?_) (fun y hy => ?_)  | refine r_bindF (by assumption) (by assumption) (by decide) (fun j hj => ?_) | refine r_bindA (by assumption) (by assumption) (by decide) (by assumption) (fun j hj => ?_) | refine r_bindN (fun j => ?_) | refine f_some ?_ | assumption | exact nj_k (by assumption) (by assumption) (by decide) | exact h00 | refine Rv_ua (by assumption) (by assumption) ?_ | refine Rv_uf (by assumption) (by assumption) (by decide) | exact Rv_16 (by assumption) (by assumption) (by assumption) | refine Rv_cp (by assumption) (by assumption) ?_ | exact Int32.le_refl _ | exact Rv_le (by assumption) (by assumption) (by assumption) | apply And.intro))
set_option maxRecDepth 100000 in
set_option maxHeartbeats 4000000 in
theorem rv_gX1_secondAt (h00 : nj 0) {r0 : Nat} {x1 : Int32} {M : ao_M} {ρ : ao_H} (hI : Rv B1 B2 0 M ρ) (h_r0 : nj r0) : ∀ z, gX1_secondAt r0 x1 M ρ = some z → Rv B1 B2 0 z.2 ρ := by
  unfold gX1_secondAt
  repeat' (with_reducible (first | exact f_none | refine f_ite (fun hc => ?_) (fun hc => ?_) | refine r_letM (Rv_ua (by assumption) (by assumption) ?_) (fun M' hM' => ?_) | refine r_letM (Rv_uf (by assumption) (by assumption) (by decide)) (fun M' hM' => ?_) | refine r_letM (Rv_16 (by assumption) (by assumption) (by assumption)) (fun M' hM' => ?_) | refine f_letI (fun v => ?_) | refine f_cs (fun x => ?_) (fun E => ?_) | refine r_letM (Rv_cp (by assumption) (by assumption) ?_) (fun M' hM' => ?_) | refine r_letM (by assumption) (fun M' hM' => ?_)  | refine r_bindF (by assumption) (by assumption) (by decide) (fun j hj => ?_) | refine r_bindA (by assumption) (by assumption) (by decide) (by assumption) (fun j hj => ?_) | refine r_bindN (fun j => ?_) | refine f_some ?_ | assumption | exact nj_k (by assumption) (by assumption) (by decide) | exact h00 | refine Rv_ua (by assumption) (by assumption) ?_ | refine Rv_uf (by assumption) (by assumption) (by decide) | exact Rv_16 (by assumption) (by assumption) (by assumption) | refine Rv_cp (by assumption) (by assumption) ?_ | exact Int32.le_refl _ | exact Rv_le (by assumption) (by assumption) (by assumption) | apply And.intro))
set_option maxRecDepth 100000 in
set_option maxHeartbeats 4000000 in
theorem rv_fX2_mayEnd (h00 : nj 0) : ∀ (n : Nat) (pc : Nat) (r0 : Nat) (r1 : Nat) (r2 : Nat) (x3 : Int32) (x4 : Int32) (M : ao_M) (ρ : ao_H), Rv B1 B2 0 M ρ → nj r0 → nj r1 → nj r2 → ∀ z, fX2_mayEnd n pc r0 r1 r2 x3 x4 M ρ = some z → Rv B1 B2 0 z.2.1 z.2.2 := by
  intro n
  induction n with
  | zero => intros; exact absurd (by assumption) (by simp [fX2_mayEnd.eq_1])
  | succ n ih =>
    intro pc r0 r1 r2 x3 x4 M ρ hI h_r0 h_r1 h_r2
    rw [fX2_mayEnd.eq_2]
    repeat' (with_reducible (first | exact f_none | refine f_ite (fun hc => ?_) (fun hc => ?_) | refine r_letM (Rv_ua (by assumption) (by assumption) ?_) (fun M' hM' => ?_) | refine r_letM (Rv_uf (by assumption) (by assumption) (by decide)) (fun M' hM' => ?_) | refine r_letM (Rv_16 (by assumption) (by assumption) (by assumption)) (fun M' hM' => ?_) | refine f_letI (fun v => ?_) | refine f_cs (fun x => ?_) (fun E => ?_) | refine r_letM (Rv_cp (by assumption) (by assumption) ?_) (fun M' hM' => ?_) | refine r_letM (by assumption) (fun M' hM' => ?_) | refine ih _ _ _ _ _ _ _ _ (by assumption) ?_ ?_ ?_ | refine ih _ _ _ _ _ _ _ _ ?_ ?_ ?_ ?_ | refine f_bind (ih _ _ _ _ _ _ _ _ (by assumption) ?_ ?_ ?_) (fun y hy => ?_) | refine f_bind2 (rv_gX7_level h00 (by assumption) ?_) (fun y hy1 hy2 => ?_) | refine f_bind (rv_gX2_loserAbout h00 (by assumption) ?_ ?_) (fun y hy => ?_) | refine f_bind (rv_gX2_restart h00 (by assumption) ?_ ?_) (fun y hy => ?_) | refine f_bind (rv_gX2_outermostWrong h00 (by assumption) ?_ ?_) (fun y hy => ?_)  | refine r_bindF (by assumption) (by assumption) (by decide) (fun j hj => ?_) | refine r_bindA (by assumption) (by assumption) (by decide) (by assumption) (fun j hj => ?_) | refine r_bindN (fun j => ?_) | refine f_some ?_ | assumption | exact nj_k (by assumption) (by assumption) (by decide) | exact h00 | refine Rv_ua (by assumption) (by assumption) ?_ | refine Rv_uf (by assumption) (by assumption) (by decide) | exact Rv_16 (by assumption) (by assumption) (by assumption) | refine Rv_cp (by assumption) (by assumption) ?_ | exact Int32.le_refl _ | exact Rv_le (by assumption) (by assumption) (by assumption) | apply And.intro))
set_option maxRecDepth 100000 in
set_option maxHeartbeats 4000000 in
theorem rv_gX2_mayEnd (h00 : nj 0) {n : Nat} {r0 : Nat} {r1 : Nat} {M : ao_M} {ρ : ao_H} (hI : Rv B1 B2 0 M ρ) (h_r0 : nj r0) (h_r1 : nj r1) : ∀ z, gX2_mayEnd n r0 r1 M ρ = some z → Rv B1 B2 0 z.2.1 z.2.2 := by
  unfold gX2_mayEnd
  exact rv_fX2_mayEnd h00 _ _ _ _ _ _ _ _ _ hI (by first | assumption | exact h00) (by first | assumption | exact h00) (by first | assumption | exact h00)
set_option maxRecDepth 100000 in
set_option maxHeartbeats 4000000 in
theorem rv_fX3_takeReadsOf (h00 : nj 0) : ∀ (n : Nat) (pc : Nat) (r0 : Nat) (r1 : Nat) (x2 : Int32) (M : ao_M) (ρ : ao_H), Rv B1 B2 0 M ρ → nj r0 → nj r1 → ∀ z, fX3_takeReadsOf n pc r0 r1 x2 M ρ = some z → Rv B1 B2 0 z ρ := by
  intro n
  induction n with
  | zero => intros; exact absurd (by assumption) (by simp [fX3_takeReadsOf.eq_1])
  | succ n ih =>
    intro pc r0 r1 x2 M ρ hI h_r0 h_r1
    rw [fX3_takeReadsOf.eq_2]
    repeat' (with_reducible (first | exact f_none | refine f_ite (fun hc => ?_) (fun hc => ?_) | refine r_letM (Rv_ua (by assumption) (by assumption) ?_) (fun M' hM' => ?_) | refine r_letM (Rv_uf (by assumption) (by assumption) (by decide)) (fun M' hM' => ?_) | refine r_letM (Rv_16 (by assumption) (by assumption) (by assumption)) (fun M' hM' => ?_) | refine f_letI (fun v => ?_) | refine f_cs (fun x => ?_) (fun E => ?_) | refine r_letM (Rv_cp (by assumption) (by assumption) ?_) (fun M' hM' => ?_) | refine r_letM (by assumption) (fun M' hM' => ?_) | refine ih _ _ _ _ _ _ (by assumption) ?_ ?_ | refine ih _ _ _ _ _ _ ?_ ?_ ?_ | refine f_bind (ih _ _ _ _ _ _ (by assumption) ?_ ?_) (fun y hy => ?_) | refine f_bind (rv_gX3_addRead h00 (by assumption) ?_) (fun y hy => ?_) | refine f_bind (rv_gX3_forgetReads h00 (by assumption) ?_) (fun y hy => ?_)  | refine r_bindF (by assumption) (by assumption) (by decide) (fun j hj => ?_) | refine r_bindA (by assumption) (by assumption) (by decide) (by assumption) (fun j hj => ?_) | refine r_bindN (fun j => ?_) | refine f_some ?_ | assumption | exact nj_k (by assumption) (by assumption) (by decide) | exact h00 | refine Rv_ua (by assumption) (by assumption) ?_ | refine Rv_uf (by assumption) (by assumption) (by decide) | exact Rv_16 (by assumption) (by assumption) (by assumption) | refine Rv_cp (by assumption) (by assumption) ?_ | exact Int32.le_refl _ | exact Rv_le (by assumption) (by assumption) (by assumption) | apply And.intro))
set_option maxRecDepth 100000 in
set_option maxHeartbeats 4000000 in
theorem rv_gX3_takeReadsOf (h00 : nj 0) {n : Nat} {r0 : Nat} {r1 : Nat} {M : ao_M} {ρ : ao_H} (hI : Rv B1 B2 0 M ρ) (h_r0 : nj r0) (h_r1 : nj r1) : ∀ z, gX3_takeReadsOf n r0 r1 M ρ = some z → Rv B1 B2 0 z ρ := by
  unfold gX3_takeReadsOf
  exact rv_fX3_takeReadsOf h00 _ _ _ _ _ _ _ hI (by first | assumption | exact h00) (by first | assumption | exact h00)
set_option maxRecDepth 100000 in
set_option maxHeartbeats 4000000 in
theorem rv_fX2_joinAround (h00 : nj 0) : ∀ (n : Nat) (pc : Nat) (r0 : Nat) (r1 : Nat) (r2 : Nat) (r3 : Nat) (x4 : Int32) (M : ao_M) (ρ : ao_H), Rv B1 B2 0 M ρ → nj r0 → nj r1 → nj r2 → nj r3 → ∀ z, fX2_joinAround n pc r0 r1 r2 r3 x4 M ρ = some z → Rv B1 B2 0 z ρ := by
  intro n
  induction n with
  | zero => intros; exact absurd (by assumption) (by simp [fX2_joinAround.eq_1])
  | succ n ih =>
    intro pc r0 r1 r2 r3 x4 M ρ hI h_r0 h_r1 h_r2 h_r3
    rw [fX2_joinAround.eq_2]
    repeat' (with_reducible (first | exact f_none | refine f_ite (fun hc => ?_) (fun hc => ?_) | refine r_letM (Rv_ua (by assumption) (by assumption) ?_) (fun M' hM' => ?_) | refine r_letM (Rv_uf (by assumption) (by assumption) (by decide)) (fun M' hM' => ?_) | refine r_letM (Rv_16 (by assumption) (by assumption) (by assumption)) (fun M' hM' => ?_) | refine f_letI (fun v => ?_) | refine f_cs (fun x => ?_) (fun E => ?_) | refine r_letM (Rv_cp (by assumption) (by assumption) ?_) (fun M' hM' => ?_) | refine r_letM (by assumption) (fun M' hM' => ?_) | refine ih _ _ _ _ _ _ _ _ (by assumption) ?_ ?_ ?_ ?_ | refine ih _ _ _ _ _ _ _ _ ?_ ?_ ?_ ?_ ?_ | refine f_bind (ih _ _ _ _ _ _ _ _ (by assumption) ?_ ?_ ?_ ?_) (fun y hy => ?_) | refine f_bind2 (rv_gX7_level h00 (by assumption) ?_) (fun y hy1 hy2 => ?_) | refine f_bind (rv_gX3_takeReadsOf h00 (by assumption) ?_ ?_) (fun y hy => ?_) | refine f_bind (rv_gX3_forgetWrites h00 (by assumption) ?_) (fun y hy => ?_) | refine f_bind (rv_gX3_wrote h00 (by assumption) ?_) (fun y hy => ?_) | refine f_bind (rv_gX2_writesAtOnce h00 (by assumption) ?_) (fun y hy => ?_) | refine f_bind (rv_gX3_addWrite h00 (by assumption) ?_) (fun y hy => ?_)  | refine r_bindF (by assumption) (by assumption) (by decide) (fun j hj => ?_) | refine r_bindA (by assumption) (by assumption) (by decide) (by assumption) (fun j hj => ?_) | refine r_bindN (fun j => ?_) | refine f_some ?_ | assumption | exact nj_k (by assumption) (by assumption) (by decide) | exact h00 | refine Rv_ua (by assumption) (by assumption) ?_ | refine Rv_uf (by assumption) (by assumption) (by decide) | exact Rv_16 (by assumption) (by assumption) (by assumption) | refine Rv_cp (by assumption) (by assumption) ?_ | exact Int32.le_refl _ | exact Rv_le (by assumption) (by assumption) (by assumption) | apply And.intro))
set_option maxRecDepth 100000 in
set_option maxHeartbeats 4000000 in
theorem rv_gX2_joinAround (h00 : nj 0) {n : Nat} {r0 : Nat} {r1 : Nat} {M : ao_M} {ρ : ao_H} (hI : Rv B1 B2 0 M ρ) (h_r0 : nj r0) (h_r1 : nj r1) : ∀ z, gX2_joinAround n r0 r1 M ρ = some z → Rv B1 B2 0 z ρ := by
  unfold gX2_joinAround
  exact rv_fX2_joinAround h00 _ _ _ _ _ _ _ _ _ hI (by first | assumption | exact h00) (by first | assumption | exact h00) (by first | assumption | exact h00) (by first | assumption | exact h00)
set_option maxRecDepth 100000 in
set_option maxHeartbeats 4000000 in
theorem rv_fX2_writeRecord (h00 : nj 0) : ∀ (n : Nat) (pc : Nat) (r0 : Nat) (r1 : Nat) (r2 : Nat) (x3 : Int32) (M : ao_M) (ρ : ao_H), Rv B1 B2 0 M ρ → nj r0 → nj r1 → nj r2 → ∀ z, fX2_writeRecord n pc r0 r1 r2 x3 M ρ = some z → Rv B1 B2 0 z ρ := by
  intro n
  induction n with
  | zero => intros; exact absurd (by assumption) (by simp [fX2_writeRecord.eq_1])
  | succ n ih =>
    intro pc r0 r1 r2 x3 M ρ hI h_r0 h_r1 h_r2
    rw [fX2_writeRecord.eq_2]
    repeat' (with_reducible (first | exact f_none | refine f_ite (fun hc => ?_) (fun hc => ?_) | refine r_letM (Rv_ua (by assumption) (by assumption) ?_) (fun M' hM' => ?_) | refine r_letM (Rv_uf (by assumption) (by assumption) (by decide)) (fun M' hM' => ?_) | refine r_letM (Rv_16 (by assumption) (by assumption) (by assumption)) (fun M' hM' => ?_) | refine f_letI (fun v => ?_) | refine f_cs (fun x => ?_) (fun E => ?_) | refine r_letM (Rv_cp (by assumption) (by assumption) ?_) (fun M' hM' => ?_) | refine r_letM (by assumption) (fun M' hM' => ?_) | refine ih _ _ _ _ _ _ _ (by assumption) ?_ ?_ ?_ | refine ih _ _ _ _ _ _ _ ?_ ?_ ?_ ?_ | refine f_bind (ih _ _ _ _ _ _ _ (by assumption) ?_ ?_ ?_) (fun y hy => ?_) | refine f_bind (rv_gX6_begin (by assumption) ?_) (fun y hy => ?_) | refine f_bind (rv_gX6_addRead h00 (by assumption) ?_) (fun y hy => ?_) | refine f_bind (rv_gX3_wrote h00 (by assumption) ?_) (fun y hy => ?_) | refine f_bind (rv_gX6_addWrite h00 (by assumption) ?_) (fun y hy => ?_)  | refine r_bindF (by assumption) (by assumption) (by decide) (fun j hj => ?_) | refine r_bindA (by assumption) (by assumption) (by decide) (by assumption) (fun j hj => ?_) | refine r_bindN (fun j => ?_) | refine f_some ?_ | assumption | exact nj_k (by assumption) (by assumption) (by decide) | exact h00 | refine Rv_ua (by assumption) (by assumption) ?_ | refine Rv_uf (by assumption) (by assumption) (by decide) | exact Rv_16 (by assumption) (by assumption) (by assumption) | refine Rv_cp (by assumption) (by assumption) ?_ | exact Int32.le_refl _ | exact Rv_le (by assumption) (by assumption) (by assumption) | apply And.intro))
set_option maxRecDepth 100000 in
set_option maxHeartbeats 4000000 in
theorem rv_gX2_writeRecord (h00 : nj 0) {n : Nat} {r0 : Nat} {r1 : Nat} {r2 : Nat} {M : ao_M} {ρ : ao_H} (hI : Rv B1 B2 0 M ρ) (h_r0 : nj r0) (h_r1 : nj r1) (h_r2 : nj r2) : ∀ z, gX2_writeRecord n r0 r1 r2 M ρ = some z → Rv B1 B2 0 z ρ := by
  unfold gX2_writeRecord
  exact rv_fX2_writeRecord h00 _ _ _ _ _ _ _ _ hI (by first | assumption | exact h00) (by first | assumption | exact h00) (by first | assumption | exact h00)
set_option maxRecDepth 100000 in
set_option maxHeartbeats 4000000 in
theorem rv_fX2_finish (h00 : nj 0) : ∀ (n : Nat) (pc : Nat) (r0 : Nat) (r1 : Nat) (r2 : Nat) (x3 : Int32) (M : ao_M) (ρ : ao_H), Rv B1 B2 0 M ρ → nj r0 → nj r1 → nj r2 → ∀ z, fX2_finish n pc r0 r1 r2 x3 M ρ = some z → Rv B1 B2 0 z.1 z.2 := by
  intro n
  induction n with
  | zero => intros; exact absurd (by assumption) (by simp [fX2_finish.eq_1])
  | succ n ih =>
    intro pc r0 r1 r2 x3 M ρ hI h_r0 h_r1 h_r2
    rw [fX2_finish.eq_2]
    repeat' (with_reducible (first | exact f_none | refine f_ite (fun hc => ?_) (fun hc => ?_) | refine r_letM (Rv_ua (by assumption) (by assumption) ?_) (fun M' hM' => ?_) | refine r_letM (Rv_uf (by assumption) (by assumption) (by decide)) (fun M' hM' => ?_) | refine r_letM (Rv_16 (by assumption) (by assumption) (by assumption)) (fun M' hM' => ?_) | refine f_letI (fun v => ?_) | refine f_cs (fun x => ?_) (fun E => ?_) | refine r_letM (Rv_cp (by assumption) (by assumption) ?_) (fun M' hM' => ?_) | refine r_letM (by assumption) (fun M' hM' => ?_) | refine ih _ _ _ _ _ _ _ (by assumption) ?_ ?_ ?_ | refine ih _ _ _ _ _ _ _ ?_ ?_ ?_ ?_ | refine f_bind (ih _ _ _ _ _ _ _ (by assumption) ?_ ?_ ?_) (fun y hy => ?_) | refine f_bind2 (rv_gX7_level h00 (by assumption) ?_) (fun y hy1 hy2 => ?_) | refine f_bind (rv_gX2_writesAtOnce h00 (by assumption) ?_) (fun y hy => ?_) | refine f_bind (rv_gX5_release h00 (by assumption) ?_) (fun y hy => ?_) | refine f_bind (rv_gX3_wrote h00 (by assumption) ?_) (fun y hy => ?_) | refine f_bind (rv_gX5_change (by assumption)) (fun y hy => ?_) | refine f_bind (rv_gX2_writeRecord h00 (by assumption) ?_ ?_ ?_) (fun y hy => ?_) | refine f_bind (rv_gX8_add h00 (by assumption) ?_) (fun y hy => ?_)  | refine r_bindF (by assumption) (by assumption) (by decide) (fun j hj => ?_) | refine r_bindA (by assumption) (by assumption) (by decide) (by assumption) (fun j hj => ?_) | refine r_bindN (fun j => ?_) | refine f_some ?_ | assumption | exact nj_k (by assumption) (by assumption) (by decide) | exact h00 | refine Rv_ua (by assumption) (by assumption) ?_ | refine Rv_uf (by assumption) (by assumption) (by decide) | exact Rv_16 (by assumption) (by assumption) (by assumption) | refine Rv_cp (by assumption) (by assumption) ?_ | exact Int32.le_refl _ | exact Rv_le (by assumption) (by assumption) (by assumption) | apply And.intro))
set_option maxRecDepth 100000 in
set_option maxHeartbeats 4000000 in
theorem rv_gX2_finish (h00 : nj 0) {n : Nat} {r0 : Nat} {r1 : Nat} {M : ao_M} {ρ : ao_H} (hI : Rv B1 B2 0 M ρ) (h_r0 : nj r0) (h_r1 : nj r1) : ∀ z, gX2_finish n r0 r1 M ρ = some z → Rv B1 B2 0 z.1 z.2 := by
  unfold gX2_finish
  exact rv_fX2_finish h00 _ _ _ _ _ _ _ _ hI (by first | assumption | exact h00) (by first | assumption | exact h00) (by first | assumption | exact h00)
set_option maxRecDepth 100000 in
set_option maxHeartbeats 4000000 in
theorem rv_fX2_closeLevel (h00 : nj 0) : ∀ (n : Nat) (pc : Nat) (r0 : Nat) (r1 : Nat) (x2 : Int32) (s0 : Int32) (M : ao_M) (ρ : ao_H), Rv B1 B2 0 M ρ → nj r0 → nj r1 → ∀ z, fX2_closeLevel n pc r0 r1 x2 s0 M ρ = some z → Rv B1 B2 0 z.2.1 z.2.2 := by
  intro n
  induction n with
  | zero => intros; exact absurd (by assumption) (by simp [fX2_closeLevel.eq_1])
  | succ n ih =>
    intro pc r0 r1 x2 s0 M ρ hI h_r0 h_r1
    rw [fX2_closeLevel.eq_2]
    repeat' (with_reducible (first | exact f_none | refine f_ite (fun hc => ?_) (fun hc => ?_) | refine r_letM (Rv_ua (by assumption) (by assumption) ?_) (fun M' hM' => ?_) | refine r_letM (Rv_uf (by assumption) (by assumption) (by decide)) (fun M' hM' => ?_) | refine r_letM (Rv_16 (by assumption) (by assumption) (by assumption)) (fun M' hM' => ?_) | refine f_letI (fun v => ?_) | refine f_cs (fun x => ?_) (fun E => ?_) | refine r_letM (Rv_cp (by assumption) (by assumption) ?_) (fun M' hM' => ?_) | refine r_letM (by assumption) (fun M' hM' => ?_) | refine ih _ _ _ _ _ _ _ (by assumption) ?_ ?_ | refine ih _ _ _ _ _ _ _ ?_ ?_ ?_ | refine f_bind (ih _ _ _ _ _ _ _ (by assumption) ?_ ?_) (fun y hy => ?_) | refine f_bind2 (rv_gX7_innermost h00 (by assumption) ?_) (fun y hy1 hy2 => ?_) | refine f_bind (rv_gX1_secondAt h00 (by assumption) ?_) (fun y hy => ?_) | refine f_bind (rv_gX2_mayEnd h00 (by assumption) ?_ ?_) (fun y hy => ?_) | refine f_bind (rv_gX2_joinAround h00 (by assumption) ?_ ?_) (fun y hy => ?_) | refine f_bind (rv_gX2_finish h00 (by assumption) ?_ ?_) (fun y hy => ?_)  | refine r_bindF (by assumption) (by assumption) (by decide) (fun j hj => ?_) | refine r_bindA (by assumption) (by assumption) (by decide) (by assumption) (fun j hj => ?_) | refine r_bindN (fun j => ?_) | refine f_some ?_ | assumption | exact nj_k (by assumption) (by assumption) (by decide) | exact h00 | refine Rv_ua (by assumption) (by assumption) ?_ | refine Rv_uf (by assumption) (by assumption) (by decide) | exact Rv_16 (by assumption) (by assumption) (by assumption) | refine Rv_cp (by assumption) (by assumption) ?_ | exact Int32.le_refl _ | exact Rv_le (by assumption) (by assumption) (by assumption) | apply And.intro))
set_option maxRecDepth 100000 in
set_option maxHeartbeats 4000000 in
theorem rv_gX2_closeLevel (h00 : nj 0) {n : Nat} {r0 : Nat} {r1 : Nat} {M : ao_M} {ρ : ao_H} (hI : Rv B1 B2 0 M ρ) (h_r0 : nj r0) (h_r1 : nj r1) : ∀ z, gX2_closeLevel n r0 r1 M ρ = some z → Rv B1 B2 0 z.2.1 z.2.2 := by
  unfold gX2_closeLevel
  exact rv_fX2_closeLevel h00 _ _ _ _ _ _ _ _ hI (by first | assumption | exact h00) (by first | assumption | exact h00)
set_option maxRecDepth 100000 in
set_option maxHeartbeats 4000000 in
theorem rv_gX1_firstAt (h00 : nj 0) {r0 : Nat} {x1 : Int32} {M : ao_M} {ρ : ao_H} (hI : Rv B1 B2 0 M ρ) (h_r0 : nj r0) : ∀ z, gX1_firstAt r0 x1 M ρ = some z → Rv B1 B2 0 z.2 ρ := by
  unfold gX1_firstAt
  repeat' (with_reducible (first | exact f_none | refine f_ite (fun hc => ?_) (fun hc => ?_) | refine r_letM (Rv_ua (by assumption) (by assumption) ?_) (fun M' hM' => ?_) | refine r_letM (Rv_uf (by assumption) (by assumption) (by decide)) (fun M' hM' => ?_) | refine r_letM (Rv_16 (by assumption) (by assumption) (by assumption)) (fun M' hM' => ?_) | refine f_letI (fun v => ?_) | refine f_cs (fun x => ?_) (fun E => ?_) | refine r_letM (Rv_cp (by assumption) (by assumption) ?_) (fun M' hM' => ?_) | refine r_letM (by assumption) (fun M' hM' => ?_)  | refine r_bindF (by assumption) (by assumption) (by decide) (fun j hj => ?_) | refine r_bindA (by assumption) (by assumption) (by decide) (by assumption) (fun j hj => ?_) | refine r_bindN (fun j => ?_) | refine f_some ?_ | assumption | exact nj_k (by assumption) (by assumption) (by decide) | exact h00 | refine Rv_ua (by assumption) (by assumption) ?_ | refine Rv_uf (by assumption) (by assumption) (by decide) | exact Rv_16 (by assumption) (by assumption) (by assumption) | refine Rv_cp (by assumption) (by assumption) ?_ | exact Int32.le_refl _ | exact Rv_le (by assumption) (by assumption) (by assumption) | apply And.intro))
set_option maxRecDepth 100000 in
set_option maxHeartbeats 4000000 in
theorem rv_fX7_levelWithOr (h00 : nj 0) : ∀ (n : Nat) (pc : Nat) (r0 : Nat) (x1 : Int32) (M : ao_M) (ρ : ao_H), Rv B1 B2 0 M ρ → nj r0 → ∀ z, fX7_levelWithOr n pc r0 x1 M ρ = some z → Rv B1 B2 0 z.2 ρ := by
  intro n
  induction n with
  | zero => intros; exact absurd (by assumption) (by simp [fX7_levelWithOr.eq_1])
  | succ n ih =>
    intro pc r0 x1 M ρ hI h_r0
    rw [fX7_levelWithOr.eq_2]
    repeat' (with_reducible (first | exact f_none | refine f_ite (fun hc => ?_) (fun hc => ?_) | refine r_letM (Rv_ua (by assumption) (by assumption) ?_) (fun M' hM' => ?_) | refine r_letM (Rv_uf (by assumption) (by assumption) (by decide)) (fun M' hM' => ?_) | refine r_letM (Rv_16 (by assumption) (by assumption) (by assumption)) (fun M' hM' => ?_) | refine f_letI (fun v => ?_) | refine f_cs (fun x => ?_) (fun E => ?_) | refine r_letM (Rv_cp (by assumption) (by assumption) ?_) (fun M' hM' => ?_) | refine r_letM (by assumption) (fun M' hM' => ?_) | refine ih _ _ _ _ _ (by assumption) ?_ | refine ih _ _ _ _ _ ?_ ?_ | refine f_bind (ih _ _ _ _ _ (by assumption) ?_) (fun y hy => ?_) | refine f_bind2 (rv_gX7_level h00 (by assumption) ?_) (fun y hy1 hy2 => ?_) | refine f_bind (rv_gX1_firstAt h00 (by assumption) ?_) (fun y hy => ?_)  | refine r_bindF (by assumption) (by assumption) (by decide) (fun j hj => ?_) | refine r_bindA (by assumption) (by assumption) (by decide) (by assumption) (fun j hj => ?_) | refine r_bindN (fun j => ?_) | refine f_some ?_ | assumption | exact nj_k (by assumption) (by assumption) (by decide) | exact h00 | refine Rv_ua (by assumption) (by assumption) ?_ | refine Rv_uf (by assumption) (by assumption) (by decide) | exact Rv_16 (by assumption) (by assumption) (by assumption) | refine Rv_cp (by assumption) (by assumption) ?_ | exact Int32.le_refl _ | exact Rv_le (by assumption) (by assumption) (by assumption) | apply And.intro))
set_option maxRecDepth 100000 in
set_option maxHeartbeats 4000000 in
theorem rv_gX7_levelWithOr (h00 : nj 0) {n : Nat} {r0 : Nat} {M : ao_M} {ρ : ao_H} (hI : Rv B1 B2 0 M ρ) (h_r0 : nj r0) : ∀ z, gX7_levelWithOr n r0 M ρ = some z → Rv B1 B2 0 z.2 ρ := by
  unfold gX7_levelWithOr
  exact rv_fX7_levelWithOr h00 _ _ _ _ _ _ hI (by first | assumption | exact h00)
set_option maxRecDepth 100000 in
set_option maxHeartbeats 4000000 in
theorem rv_fX2_foldReads (h00 : nj 0) : ∀ (n : Nat) (pc : Nat) (r0 : Nat) (x1 : Int32) (x2 : Int32) (M : ao_M) (ρ : ao_H), Rv B1 B2 0 M ρ → nj r0 → ∀ z, fX2_foldReads n pc r0 x1 x2 M ρ = some z → Rv B1 B2 0 z ρ := by
  intro n
  induction n with
  | zero => intros; exact absurd (by assumption) (by simp [fX2_foldReads.eq_1])
  | succ n ih =>
    intro pc r0 x1 x2 M ρ hI h_r0
    rw [fX2_foldReads.eq_2]
    repeat' (with_reducible (first | exact f_none | refine f_ite (fun hc => ?_) (fun hc => ?_) | refine r_letM (Rv_ua (by assumption) (by assumption) ?_) (fun M' hM' => ?_) | refine r_letM (Rv_uf (by assumption) (by assumption) (by decide)) (fun M' hM' => ?_) | refine r_letM (Rv_16 (by assumption) (by assumption) (by assumption)) (fun M' hM' => ?_) | refine f_letI (fun v => ?_) | refine f_cs (fun x => ?_) (fun E => ?_) | refine r_letM (Rv_cp (by assumption) (by assumption) ?_) (fun M' hM' => ?_) | refine r_letM (by assumption) (fun M' hM' => ?_) | refine ih _ _ _ _ _ _ (by assumption) ?_ | refine ih _ _ _ _ _ _ ?_ ?_ | refine f_bind (ih _ _ _ _ _ _ (by assumption) ?_) (fun y hy => ?_) | refine f_bind2 (rv_gX7_level h00 (by assumption) ?_) (fun y hy1 hy2 => ?_) | refine f_bind (rv_gX3_takeReadsOf h00 (by assumption) ?_ ?_) (fun y hy => ?_)  | refine r_bindF (by assumption) (by assumption) (by decide) (fun j hj => ?_) | refine r_bindA (by assumption) (by assumption) (by decide) (by assumption) (fun j hj => ?_) | refine r_bindN (fun j => ?_) | refine f_some ?_ | assumption | exact nj_k (by assumption) (by assumption) (by decide) | exact h00 | refine Rv_ua (by assumption) (by assumption) ?_ | refine Rv_uf (by assumption) (by assumption) (by decide) | exact Rv_16 (by assumption) (by assumption) (by assumption) | refine Rv_cp (by assumption) (by assumption) ?_ | exact Int32.le_refl _ | exact Rv_le (by assumption) (by assumption) (by assumption) | apply And.intro))
set_option maxRecDepth 100000 in
set_option maxHeartbeats 4000000 in
theorem rv_gX2_foldReads (h00 : nj 0) {n : Nat} {r0 : Nat} {x1 : Int32} {M : ao_M} {ρ : ao_H} (hI : Rv B1 B2 0 M ρ) (h_r0 : nj r0) : ∀ z, gX2_foldReads n r0 x1 M ρ = some z → Rv B1 B2 0 z ρ := by
  unfold gX2_foldReads
  exact rv_fX2_foldReads h00 _ _ _ _ _ _ _ hI (by first | assumption | exact h00)
set_option maxRecDepth 100000 in
set_option maxHeartbeats 4000000 in
theorem rv_fX2_fallAsleep (h00 : nj 0) : ∀ (n : Nat) (pc : Nat) (r0 : Nat) (r1 : Nat) (M : ao_M) (ρ : ao_H), Rv B1 B2 0 M ρ → nj r0 → nj r1 → ∀ z, fX2_fallAsleep n pc r0 r1 M ρ = some z → Rv B1 B2 0 z.2.1 z.2.2 := by
  intro n
  induction n with
  | zero => intros; exact absurd (by assumption) (by simp [fX2_fallAsleep.eq_1])
  | succ n ih =>
    intro pc r0 r1 M ρ hI h_r0 h_r1
    rw [fX2_fallAsleep.eq_2]
    repeat' (with_reducible (first | exact f_none | refine f_ite (fun hc => ?_) (fun hc => ?_) | refine r_letM (Rv_ua (by assumption) (by assumption) ?_) (fun M' hM' => ?_) | refine r_letM (Rv_uf (by assumption) (by assumption) (by decide)) (fun M' hM' => ?_) | refine r_letM (Rv_16 (by assumption) (by assumption) (by assumption)) (fun M' hM' => ?_) | refine f_letI (fun v => ?_) | refine f_cs (fun x => ?_) (fun E => ?_) | refine r_letM (Rv_cp (by assumption) (by assumption) ?_) (fun M' hM' => ?_) | refine r_letM (by assumption) (fun M' hM' => ?_) | refine ih _ _ _ _ _ (by assumption) ?_ ?_ | refine ih _ _ _ _ _ ?_ ?_ ?_ | refine f_bind (ih _ _ _ _ _ (by assumption) ?_ ?_) (fun y hy => ?_) | refine f_bind (rv_gX2_foldReads h00 (by assumption) ?_) (fun y hy => ?_) | refine f_bind (rv_gX2_takeBack h00 (by assumption) ?_ ?_) (fun y hy => ?_) | refine f_bind (rv_gX5_release h00 (by assumption) ?_) (fun y hy => ?_)  | refine r_bindF (by assumption) (by assumption) (by decide) (fun j hj => ?_) | refine r_bindA (by assumption) (by assumption) (by decide) (by assumption) (fun j hj => ?_) | refine r_bindN (fun j => ?_) | refine f_some ?_ | assumption | exact nj_k (by assumption) (by assumption) (by decide) | exact h00 | refine Rv_ua (by assumption) (by assumption) ?_ | refine Rv_uf (by assumption) (by assumption) (by decide) | exact Rv_16 (by assumption) (by assumption) (by assumption) | refine Rv_cp (by assumption) (by assumption) ?_ | exact Int32.le_refl _ | exact Rv_le (by assumption) (by assumption) (by assumption) | apply And.intro))
set_option maxRecDepth 100000 in
set_option maxHeartbeats 4000000 in
theorem rv_gX2_fallAsleep (h00 : nj 0) {n : Nat} {r0 : Nat} {r1 : Nat} {M : ao_M} {ρ : ao_H} (hI : Rv B1 B2 0 M ρ) (h_r0 : nj r0) (h_r1 : nj r1) : ∀ z, gX2_fallAsleep n r0 r1 M ρ = some z → Rv B1 B2 0 z.2.1 z.2.2 := by
  unfold gX2_fallAsleep
  exact rv_fX2_fallAsleep h00 _ _ _ _ _ _ hI (by first | assumption | exact h00) (by first | assumption | exact h00)
set_option maxRecDepth 100000 in
set_option maxHeartbeats 4000000 in
theorem rv_fX2_retry (h00 : nj 0) : ∀ (n : Nat) (pc : Nat) (r0 : Nat) (r1 : Nat) (x2 : Int32) (s0 : Int32) (q1 : Nat) (M : ao_M) (ρ : ao_H), Rv B1 B2 0 M ρ → nj r0 → nj r1 → nj q1 → ∀ z, fX2_retry n pc r0 r1 x2 s0 q1 M ρ = some z → Rv B1 B2 0 z.2.1 z.2.2 := by
  intro n
  induction n with
  | zero => intros; exact absurd (by assumption) (by simp [fX2_retry.eq_1])
  | succ n ih =>
    intro pc r0 r1 x2 s0 q1 M ρ hI h_r0 h_r1 h_q1
    rw [fX2_retry.eq_2]
    repeat' (with_reducible (first | exact f_none | refine f_ite (fun hc => ?_) (fun hc => ?_) | refine r_letM (Rv_ua (by assumption) (by assumption) ?_) (fun M' hM' => ?_) | refine r_letM (Rv_uf (by assumption) (by assumption) (by decide)) (fun M' hM' => ?_) | refine r_letM (Rv_16 (by assumption) (by assumption) (by assumption)) (fun M' hM' => ?_) | refine f_letI (fun v => ?_) | refine f_cs (fun x => ?_) (fun E => ?_) | refine r_letM (Rv_cp (by assumption) (by assumption) ?_) (fun M' hM' => ?_) | refine r_letM (by assumption) (fun M' hM' => ?_) | refine ih _ _ _ _ _ _ _ _ (by assumption) ?_ ?_ ?_ | refine ih _ _ _ _ _ _ _ _ ?_ ?_ ?_ ?_ | refine f_bind (ih _ _ _ _ _ _ _ _ (by assumption) ?_ ?_ ?_) (fun y hy => ?_) | refine f_bind (rv_gX7_levelWithOr h00 (by assumption) ?_) (fun y hy => ?_) | refine f_bind (rv_gX2_fallAsleep h00 (by assumption) ?_ ?_) (fun y hy => ?_) | refine f_bind (rv_gX2_foldReads h00 (by assumption) ?_) (fun y hy => ?_) | refine f_bind (rv_gX2_takeBack h00 (by assumption) ?_ ?_) (fun y hy => ?_) | refine f_bind2 (rv_gX7_level h00 (by assumption) ?_) (fun y hy1 hy2 => ?_) | refine f_bind (rv_gX1_firstAt h00 (by assumption) ?_) (fun y hy => ?_)  | refine r_bindF (by assumption) (by assumption) (by decide) (fun j hj => ?_) | refine r_bindA (by assumption) (by assumption) (by decide) (by assumption) (fun j hj => ?_) | refine r_bindN (fun j => ?_) | refine f_some ?_ | assumption | exact nj_k (by assumption) (by assumption) (by decide) | exact h00 | refine Rv_ua (by assumption) (by assumption) ?_ | refine Rv_uf (by assumption) (by assumption) (by decide) | exact Rv_16 (by assumption) (by assumption) (by assumption) | refine Rv_cp (by assumption) (by assumption) ?_ | exact Int32.le_refl _ | exact Rv_le (by assumption) (by assumption) (by assumption) | apply And.intro))
set_option maxRecDepth 100000 in
set_option maxHeartbeats 4000000 in
theorem rv_gX2_retry (h00 : nj 0) {n : Nat} {r0 : Nat} {r1 : Nat} {M : ao_M} {ρ : ao_H} (hI : Rv B1 B2 0 M ρ) (h_r0 : nj r0) (h_r1 : nj r1) : ∀ z, gX2_retry n r0 r1 M ρ = some z → Rv B1 B2 0 z.2.1 z.2.2 := by
  unfold gX2_retry
  exact rv_fX2_retry h00 _ _ _ _ _ _ _ _ _ hI (by first | assumption | exact h00) (by first | assumption | exact h00) (by first | assumption | exact h00)
set_option maxRecDepth 100000 in
set_option maxHeartbeats 4000000 in
theorem rv_fX2_leaveFrom (h00 : nj 0) : ∀ (n : Nat) (pc : Nat) (r0 : Nat) (r1 : Nat) (x2 : Int32) (M : ao_M) (ρ : ao_H), Rv B1 B2 0 M ρ → nj r0 → nj r1 → ∀ z, fX2_leaveFrom n pc r0 r1 x2 M ρ = some z → Rv B1 B2 0 z.1 z.2 := by
  intro n
  induction n with
  | zero => intros; exact absurd (by assumption) (by simp [fX2_leaveFrom.eq_1])
  | succ n ih =>
    intro pc r0 r1 x2 M ρ hI h_r0 h_r1
    rw [fX2_leaveFrom.eq_2]
    repeat' (with_reducible (first | exact f_none | refine f_ite (fun hc => ?_) (fun hc => ?_) | refine r_letM (Rv_ua (by assumption) (by assumption) ?_) (fun M' hM' => ?_) | refine r_letM (Rv_uf (by assumption) (by assumption) (by decide)) (fun M' hM' => ?_) | refine r_letM (Rv_16 (by assumption) (by assumption) (by assumption)) (fun M' hM' => ?_) | refine f_letI (fun v => ?_) | refine f_cs (fun x => ?_) (fun E => ?_) | refine r_letM (Rv_cp (by assumption) (by assumption) ?_) (fun M' hM' => ?_) | refine r_letM (by assumption) (fun M' hM' => ?_) | refine ih _ _ _ _ _ _ (by assumption) ?_ ?_ | refine ih _ _ _ _ _ _ ?_ ?_ ?_ | refine f_bind (ih _ _ _ _ _ _ (by assumption) ?_ ?_) (fun y hy => ?_) | refine f_bind (rv_gX2_foldReads h00 (by assumption) ?_) (fun y hy => ?_) | refine f_bind (rv_gX2_takeBack h00 (by assumption) ?_ ?_) (fun y hy => ?_) | refine f_bind (rv_gX5_release h00 (by assumption) ?_) (fun y hy => ?_)  | refine r_bindF (by assumption) (by assumption) (by decide) (fun j hj => ?_) | refine r_bindA (by assumption) (by assumption) (by decide) (by assumption) (fun j hj => ?_) | refine r_bindN (fun j => ?_) | refine f_some ?_ | assumption | exact nj_k (by assumption) (by assumption) (by decide) | exact h00 | refine Rv_ua (by assumption) (by assumption) ?_ | refine Rv_uf (by assumption) (by assumption) (by decide) | exact Rv_16 (by assumption) (by assumption) (by assumption) | refine Rv_cp (by assumption) (by assumption) ?_ | exact Int32.le_refl _ | exact Rv_le (by assumption) (by assumption) (by assumption) | apply And.intro))
set_option maxRecDepth 100000 in
set_option maxHeartbeats 4000000 in
theorem rv_gX2_leaveFrom (h00 : nj 0) {n : Nat} {r0 : Nat} {r1 : Nat} {x2 : Int32} {M : ao_M} {ρ : ao_H} (hI : Rv B1 B2 0 M ρ) (h_r0 : nj r0) (h_r1 : nj r1) : ∀ z, gX2_leaveFrom n r0 r1 x2 M ρ = some z → Rv B1 B2 0 z.1 z.2 := by
  unfold gX2_leaveFrom
  exact rv_fX2_leaveFrom h00 _ _ _ _ _ _ _ hI (by first | assumption | exact h00) (by first | assumption | exact h00)
set_option maxRecDepth 100000 in
set_option maxHeartbeats 4000000 in
theorem rv_fX2_quit (h00 : nj 0) : ∀ (n : Nat) (pc : Nat) (r0 : Nat) (r1 : Nat) (x2 : Int32) (M : ao_M) (ρ : ao_H), Rv B1 B2 0 M ρ → nj r0 → nj r1 → ∀ z, fX2_quit n pc r0 r1 x2 M ρ = some z → Rv B1 B2 0 z.2.1 z.2.2 := by
  intro n
  induction n with
  | zero => intros; exact absurd (by assumption) (by simp [fX2_quit.eq_1])
  | succ n ih =>
    intro pc r0 r1 x2 M ρ hI h_r0 h_r1
    rw [fX2_quit.eq_2]
    repeat' (with_reducible (first | exact f_none | refine f_ite (fun hc => ?_) (fun hc => ?_) | refine r_letM (Rv_ua (by assumption) (by assumption) ?_) (fun M' hM' => ?_) | refine r_letM (Rv_uf (by assumption) (by assumption) (by decide)) (fun M' hM' => ?_) | refine r_letM (Rv_16 (by assumption) (by assumption) (by assumption)) (fun M' hM' => ?_) | refine f_letI (fun v => ?_) | refine f_cs (fun x => ?_) (fun E => ?_) | refine r_letM (Rv_cp (by assumption) (by assumption) ?_) (fun M' hM' => ?_) | refine r_letM (by assumption) (fun M' hM' => ?_) | refine ih _ _ _ _ _ _ (by assumption) ?_ ?_ | refine ih _ _ _ _ _ _ ?_ ?_ ?_ | refine f_bind (ih _ _ _ _ _ _ (by assumption) ?_ ?_) (fun y hy => ?_) | refine f_bind2 (rv_gX7_innermost h00 (by assumption) ?_) (fun y hy1 hy2 => ?_) | refine f_bind (rv_gX1_secondAt h00 (by assumption) ?_) (fun y hy => ?_) | refine f_bind (rv_gX2_leaveFrom h00 (by assumption) ?_ ?_) (fun y hy => ?_)  | refine r_bindF (by assumption) (by assumption) (by decide) (fun j hj => ?_) | refine r_bindA (by assumption) (by assumption) (by decide) (by assumption) (fun j hj => ?_) | refine r_bindN (fun j => ?_) | refine f_some ?_ | assumption | exact nj_k (by assumption) (by assumption) (by decide) | exact h00 | refine Rv_ua (by assumption) (by assumption) ?_ | refine Rv_uf (by assumption) (by assumption) (by decide) | exact Rv_16 (by assumption) (by assumption) (by assumption) | refine Rv_cp (by assumption) (by assumption) ?_ | exact Int32.le_refl _ | exact Rv_le (by assumption) (by assumption) (by assumption) | apply And.intro))
set_option maxRecDepth 100000 in
set_option maxHeartbeats 4000000 in
theorem rv_gX2_quit (h00 : nj 0) {n : Nat} {r0 : Nat} {r1 : Nat} {M : ao_M} {ρ : ao_H} (hI : Rv B1 B2 0 M ρ) (h_r0 : nj r0) (h_r1 : nj r1) : ∀ z, gX2_quit n r0 r1 M ρ = some z → Rv B1 B2 0 z.2.1 z.2.2 := by
  unfold gX2_quit
  exact rv_fX2_quit h00 _ _ _ _ _ _ _ hI (by first | assumption | exact h00) (by first | assumption | exact h00)
set_option maxRecDepth 100000 in
set_option maxHeartbeats 4000000 in
theorem rv_gX7_tryAtOf (h00 : nj 0) {r0 : Nat} {x1 : Int32} {M : ao_M} {ρ : ao_H} (hI : Rv B1 B2 0 M ρ) (h_r0 : nj r0) : ∀ z, gX7_tryAtOf r0 x1 M ρ = some z → Rv B1 B2 0 z.2 ρ := by
  unfold gX7_tryAtOf
  repeat' (with_reducible (first | exact f_none | refine f_ite (fun hc => ?_) (fun hc => ?_) | refine r_letM (Rv_ua (by assumption) (by assumption) ?_) (fun M' hM' => ?_) | refine r_letM (Rv_uf (by assumption) (by assumption) (by decide)) (fun M' hM' => ?_) | refine r_letM (Rv_16 (by assumption) (by assumption) (by assumption)) (fun M' hM' => ?_) | refine f_letI (fun v => ?_) | refine f_cs (fun x => ?_) (fun E => ?_) | refine r_letM (Rv_cp (by assumption) (by assumption) ?_) (fun M' hM' => ?_) | refine r_letM (by assumption) (fun M' hM' => ?_)  | refine r_bindF (by assumption) (by assumption) (by decide) (fun j hj => ?_) | refine r_bindA (by assumption) (by assumption) (by decide) (by assumption) (fun j hj => ?_) | refine r_bindN (fun j => ?_) | refine f_some ?_ | assumption | exact nj_k (by assumption) (by assumption) (by decide) | exact h00 | refine Rv_ua (by assumption) (by assumption) ?_ | refine Rv_uf (by assumption) (by assumption) (by decide) | exact Rv_16 (by assumption) (by assumption) (by assumption) | refine Rv_cp (by assumption) (by assumption) ?_ | exact Int32.le_refl _ | exact Rv_le (by assumption) (by assumption) (by assumption) | apply And.intro))
set_option maxRecDepth 100000 in
set_option maxHeartbeats 4000000 in
theorem rv_gX7_tryDepthOf (h00 : nj 0) {r0 : Nat} {x1 : Int32} {M : ao_M} {ρ : ao_H} (hI : Rv B1 B2 0 M ρ) (h_r0 : nj r0) : ∀ z, gX7_tryDepthOf r0 x1 M ρ = some z → Rv B1 B2 0 z.2 ρ := by
  unfold gX7_tryDepthOf
  repeat' (with_reducible (first | exact f_none | refine f_ite (fun hc => ?_) (fun hc => ?_) | refine r_letM (Rv_ua (by assumption) (by assumption) ?_) (fun M' hM' => ?_) | refine r_letM (Rv_uf (by assumption) (by assumption) (by decide)) (fun M' hM' => ?_) | refine r_letM (Rv_16 (by assumption) (by assumption) (by assumption)) (fun M' hM' => ?_) | refine f_letI (fun v => ?_) | refine f_cs (fun x => ?_) (fun E => ?_) | refine r_letM (Rv_cp (by assumption) (by assumption) ?_) (fun M' hM' => ?_) | refine r_letM (by assumption) (fun M' hM' => ?_)  | refine r_bindF (by assumption) (by assumption) (by decide) (fun j hj => ?_) | refine r_bindA (by assumption) (by assumption) (by decide) (by assumption) (fun j hj => ?_) | refine r_bindN (fun j => ?_) | refine f_some ?_ | assumption | exact nj_k (by assumption) (by assumption) (by decide) | exact h00 | refine Rv_ua (by assumption) (by assumption) ?_ | refine Rv_uf (by assumption) (by assumption) (by decide) | exact Rv_16 (by assumption) (by assumption) (by assumption) | refine Rv_cp (by assumption) (by assumption) ?_ | exact Int32.le_refl _ | exact Rv_le (by assumption) (by assumption) (by assumption) | apply And.intro))
set_option maxRecDepth 100000 in
set_option maxHeartbeats 4000000 in
theorem rv_gX2_setRegister (h00 : nj 0) {r0 : Nat} {x1 : Int32} {x2 : Int32} {M : ao_M} {ρ : ao_H} (hI : Rv B1 B2 0 M ρ) (h_r0 : nj r0) : ∀ z, gX2_setRegister r0 x1 x2 M ρ = some z → Rv B1 B2 0 z ρ := by
  unfold gX2_setRegister
  repeat' (with_reducible (first | exact f_none | refine f_ite (fun hc => ?_) (fun hc => ?_) | refine r_letM (Rv_ua (by assumption) (by assumption) ?_) (fun M' hM' => ?_) | refine r_letM (Rv_uf (by assumption) (by assumption) (by decide)) (fun M' hM' => ?_) | refine r_letM (Rv_16 (by assumption) (by assumption) (by assumption)) (fun M' hM' => ?_) | refine f_letI (fun v => ?_) | refine f_cs (fun x => ?_) (fun E => ?_) | refine r_letM (Rv_cp (by assumption) (by assumption) ?_) (fun M' hM' => ?_) | refine r_letM (by assumption) (fun M' hM' => ?_)  | refine r_bindF (by assumption) (by assumption) (by decide) (fun j hj => ?_) | refine r_bindA (by assumption) (by assumption) (by decide) (by assumption) (fun j hj => ?_) | refine r_bindN (fun j => ?_) | refine f_some ?_ | assumption | exact nj_k (by assumption) (by assumption) (by decide) | exact h00 | refine Rv_ua (by assumption) (by assumption) ?_ | refine Rv_uf (by assumption) (by assumption) (by decide) | exact Rv_16 (by assumption) (by assumption) (by assumption) | refine Rv_cp (by assumption) (by assumption) ?_ | exact Int32.le_refl _ | exact Rv_le (by assumption) (by assumption) (by assumption) | apply And.intro))
set_option maxRecDepth 100000 in
set_option maxHeartbeats 4000000 in
theorem rv_fX2_fail (h00 : nj 0) : ∀ (n : Nat) (pc : Nat) (r0 : Nat) (r1 : Nat) (x2 : Int32) (x3 : Int32) (x4 : Int32) (M : ao_M) (ρ : ao_H), Rv B1 B2 0 M ρ → nj r0 → nj r1 → ∀ z, fX2_fail n pc r0 r1 x2 x3 x4 M ρ = some z → Rv B1 B2 0 z.2.1 z.2.2 := by
  intro n
  induction n with
  | zero => intros; exact absurd (by assumption) (by simp [fX2_fail.eq_1])
  | succ n ih =>
    intro pc r0 r1 x2 x3 x4 M ρ hI h_r0 h_r1
    rw [fX2_fail.eq_2]
    repeat' (with_reducible (first | exact f_none | refine f_ite (fun hc => ?_) (fun hc => ?_) | refine r_letM (Rv_ua (by assumption) (by assumption) ?_) (fun M' hM' => ?_) | refine r_letM (Rv_uf (by assumption) (by assumption) (by decide)) (fun M' hM' => ?_) | refine r_letM (Rv_16 (by assumption) (by assumption) (by assumption)) (fun M' hM' => ?_) | refine f_letI (fun v => ?_) | refine f_cs (fun x => ?_) (fun E => ?_) | refine r_letM (Rv_cp (by assumption) (by assumption) ?_) (fun M' hM' => ?_) | refine r_letM (by assumption) (fun M' hM' => ?_) | refine ih _ _ _ _ _ _ _ _ (by assumption) ?_ ?_ | refine ih _ _ _ _ _ _ _ _ ?_ ?_ ?_ | refine f_bind (ih _ _ _ _ _ _ _ _ (by assumption) ?_ ?_) (fun y hy => ?_) | refine f_bind (rv_gX7_tryAtOf h00 (by assumption) ?_) (fun y hy => ?_) | refine f_bind (rv_gX7_tryDepthOf h00 (by assumption) ?_) (fun y hy => ?_) | refine f_bind (rv_gX2_leaveFrom h00 (by assumption) ?_ ?_) (fun y hy => ?_) | refine f_bind (rv_gX1_secondAt h00 (by assumption) ?_) (fun y hy => ?_) | refine f_bind (rv_gX2_setRegister h00 (by assumption) ?_) (fun y hy => ?_) | refine f_bind (rv_gX1_firstAt h00 (by assumption) ?_) (fun y hy => ?_)  | refine r_bindF (by assumption) (by assumption) (by decide) (fun j hj => ?_) | refine r_bindA (by assumption) (by assumption) (by decide) (by assumption) (fun j hj => ?_) | refine r_bindN (fun j => ?_) | refine f_some ?_ | assumption | exact nj_k (by assumption) (by assumption) (by decide) | exact h00 | refine Rv_ua (by assumption) (by assumption) ?_ | refine Rv_uf (by assumption) (by assumption) (by decide) | exact Rv_16 (by assumption) (by assumption) (by assumption) | refine Rv_cp (by assumption) (by assumption) ?_ | exact Int32.le_refl _ | exact Rv_le (by assumption) (by assumption) (by assumption) | apply And.intro))
set_option maxRecDepth 100000 in
set_option maxHeartbeats 4000000 in
theorem rv_gX2_fail (h00 : nj 0) {n : Nat} {r0 : Nat} {r1 : Nat} {x2 : Int32} {M : ao_M} {ρ : ao_H} (hI : Rv B1 B2 0 M ρ) (h_r0 : nj r0) (h_r1 : nj r1) : ∀ z, gX2_fail n r0 r1 x2 M ρ = some z → Rv B1 B2 0 z.2.1 z.2.2 := by
  unfold gX2_fail
  exact rv_fX2_fail h00 _ _ _ _ _ _ _ _ _ hI (by first | assumption | exact h00) (by first | assumption | exact h00)
set_option maxRecDepth 100000 in
set_option maxHeartbeats 4000000 in
theorem rv_gX7_enterTry (h00 : nj 0) {r0 : Nat} {x1 : Int32} {M : ao_M} {ρ : ao_H} (hI : Rv B1 B2 0 M ρ) (h_r0 : nj r0) : ∀ z, gX7_enterTry r0 x1 M ρ = some z → Rv B1 B2 0 z ρ := by
  unfold gX7_enterTry
  repeat' (with_reducible (first | exact f_none | refine f_ite (fun hc => ?_) (fun hc => ?_) | refine r_letM (Rv_ua (by assumption) (by assumption) ?_) (fun M' hM' => ?_) | refine r_letM (Rv_uf (by assumption) (by assumption) (by decide)) (fun M' hM' => ?_) | refine r_letM (Rv_16 (by assumption) (by assumption) (by assumption)) (fun M' hM' => ?_) | refine f_letI (fun v => ?_) | refine f_cs (fun x => ?_) (fun E => ?_) | refine r_letM (Rv_cp (by assumption) (by assumption) ?_) (fun M' hM' => ?_) | refine r_letM (by assumption) (fun M' hM' => ?_)  | refine r_bindF (by assumption) (by assumption) (by decide) (fun j hj => ?_) | refine r_bindA (by assumption) (by assumption) (by decide) (by assumption) (fun j hj => ?_) | refine r_bindN (fun j => ?_) | refine f_some ?_ | assumption | exact nj_k (by assumption) (by assumption) (by decide) | exact h00 | refine Rv_ua (by assumption) (by assumption) ?_ | refine Rv_uf (by assumption) (by assumption) (by decide) | exact Rv_16 (by assumption) (by assumption) (by assumption) | refine Rv_cp (by assumption) (by assumption) ?_ | exact Int32.le_refl _ | exact Rv_le (by assumption) (by assumption) (by assumption) | apply And.intro))
set_option maxRecDepth 100000 in
set_option maxHeartbeats 4000000 in
theorem rv_gX7_leaveTry (h00 : nj 0) {r0 : Nat} {M : ao_M} {ρ : ao_H} (hI : Rv B1 B2 0 M ρ) (h_r0 : nj r0) : ∀ z, gX7_leaveTry r0 M ρ = some z → Rv B1 B2 0 z ρ := by
  unfold gX7_leaveTry
  repeat' (with_reducible (first | exact f_none | refine f_ite (fun hc => ?_) (fun hc => ?_) | refine r_letM (Rv_ua (by assumption) (by assumption) ?_) (fun M' hM' => ?_) | refine r_letM (Rv_uf (by assumption) (by assumption) (by decide)) (fun M' hM' => ?_) | refine r_letM (Rv_16 (by assumption) (by assumption) (by assumption)) (fun M' hM' => ?_) | refine f_letI (fun v => ?_) | refine f_cs (fun x => ?_) (fun E => ?_) | refine r_letM (Rv_cp (by assumption) (by assumption) ?_) (fun M' hM' => ?_) | refine r_letM (by assumption) (fun M' hM' => ?_)  | refine r_bindF (by assumption) (by assumption) (by decide) (fun j hj => ?_) | refine r_bindA (by assumption) (by assumption) (by decide) (by assumption) (fun j hj => ?_) | refine r_bindN (fun j => ?_) | refine f_some ?_ | assumption | exact nj_k (by assumption) (by assumption) (by decide) | exact h00 | refine Rv_ua (by assumption) (by assumption) ?_ | refine Rv_uf (by assumption) (by assumption) (by decide) | exact Rv_16 (by assumption) (by assumption) (by assumption) | refine Rv_cp (by assumption) (by assumption) ?_ | exact Int32.le_refl _ | exact Rv_le (by assumption) (by assumption) (by assumption) | apply And.intro))
set_option maxRecDepth 100000 in
set_option maxHeartbeats 4000000 in
theorem rv_gX2_compute (h00 : nj 0) {x0 : Int32} {x1 : Int32} {x2 : Int32} {M : ao_M} {ρ : ao_H} (hI : Rv B1 B2 0 M ρ)  : ∀ z, gX2_compute x0 x1 x2 M ρ = some z → Rv B1 B2 0 z.2 ρ := by
  unfold gX2_compute
  repeat' (with_reducible (first | exact f_none | refine f_ite (fun hc => ?_) (fun hc => ?_) | refine r_letM (Rv_ua (by assumption) (by assumption) ?_) (fun M' hM' => ?_) | refine r_letM (Rv_uf (by assumption) (by assumption) (by decide)) (fun M' hM' => ?_) | refine r_letM (Rv_16 (by assumption) (by assumption) (by assumption)) (fun M' hM' => ?_) | refine f_letI (fun v => ?_) | refine f_cs (fun x => ?_) (fun E => ?_) | refine r_letM (Rv_cp (by assumption) (by assumption) ?_) (fun M' hM' => ?_) | refine r_letM (by assumption) (fun M' hM' => ?_)  | refine r_bindF (by assumption) (by assumption) (by decide) (fun j hj => ?_) | refine r_bindA (by assumption) (by assumption) (by decide) (by assumption) (fun j hj => ?_) | refine r_bindN (fun j => ?_) | refine f_some ?_ | assumption | exact nj_k (by assumption) (by assumption) (by decide) | exact h00 | refine Rv_ua (by assumption) (by assumption) ?_ | refine Rv_uf (by assumption) (by assumption) (by decide) | exact Rv_16 (by assumption) (by assumption) (by assumption) | refine Rv_cp (by assumption) (by assumption) ?_ | exact Int32.le_refl _ | exact Rv_le (by assumption) (by assumption) (by assumption) | apply And.intro))
set_option maxRecDepth 100000 in
set_option maxHeartbeats 4000000 in
theorem rv_fX2_onTheWay (h00 : nj 0) : ∀ (n : Nat) (pc : Nat) (r0 : Nat) (x1 : Int32) (x2 : Int32) (q0 : Nat) (s0 : Int32) (q1 : Nat) (M : ao_M) (ρ : ao_H), Rv B1 B2 0 M ρ → nj r0 → nj q0 → nj q1 → ∀ z, fX2_onTheWay n pc r0 x1 x2 q0 s0 q1 M ρ = some z → Rv B1 B2 0 z ρ := by
  intro n
  induction n with
  | zero => intros; exact absurd (by assumption) (by simp [fX2_onTheWay.eq_1])
  | succ n ih =>
    intro pc r0 x1 x2 q0 s0 q1 M ρ hI h_r0 h_q0 h_q1
    rw [fX2_onTheWay.eq_2]
    repeat' (with_reducible (first | exact f_none | refine f_ite (fun hc => ?_) (fun hc => ?_) | refine r_letM (Rv_ua (by assumption) (by assumption) ?_) (fun M' hM' => ?_) | refine r_letM (Rv_uf (by assumption) (by assumption) (by decide)) (fun M' hM' => ?_) | refine r_letM (Rv_16 (by assumption) (by assumption) (by assumption)) (fun M' hM' => ?_) | refine f_letI (fun v => ?_) | refine f_cs (fun x => ?_) (fun E => ?_) | refine r_letM (Rv_cp (by assumption) (by assumption) ?_) (fun M' hM' => ?_) | refine r_letM (by assumption) (fun M' hM' => ?_) | refine ih _ _ _ _ _ _ _ _ _ (by assumption) ?_ ?_ ?_ | refine ih _ _ _ _ _ _ _ _ _ ?_ ?_ ?_ ?_ | refine f_bind (ih _ _ _ _ _ _ _ _ _ (by assumption) ?_ ?_ ?_) (fun y hy => ?_) | refine f_bind (rv_gX7_push h00 (by assumption) ?_) (fun y hy => ?_) | refine f_bind (rv_gX7_pop h00 (by assumption) ?_) (fun y hy => ?_) | refine f_bind (rv_gX2_setRegister h00 (by assumption) ?_) (fun y hy => ?_) | refine f_bind (rv_gX2_compute h00 (by assumption)) (fun y hy => ?_)  | refine r_bindF (by assumption) (by assumption) (by decide) (fun j hj => ?_) | refine r_bindA (by assumption) (by assumption) (by decide) (by assumption) (fun j hj => ?_) | refine r_bindN (fun j => ?_) | refine f_some ?_ | assumption | exact nj_k (by assumption) (by assumption) (by decide) | exact h00 | refine Rv_ua (by assumption) (by assumption) ?_ | refine Rv_uf (by assumption) (by assumption) (by decide) | exact Rv_16 (by assumption) (by assumption) (by assumption) | refine Rv_cp (by assumption) (by assumption) ?_ | exact Int32.le_refl _ | exact Rv_le (by assumption) (by assumption) (by assumption) | apply And.intro))
set_option maxRecDepth 100000 in
set_option maxHeartbeats 4000000 in
theorem rv_gX2_onTheWay (h00 : nj 0) {n : Nat} {r0 : Nat} {x1 : Int32} {x2 : Int32} {M : ao_M} {ρ : ao_H} (hI : Rv B1 B2 0 M ρ) (h_r0 : nj r0) : ∀ z, gX2_onTheWay n r0 x1 x2 M ρ = some z → Rv B1 B2 0 z ρ := by
  unfold gX2_onTheWay
  exact rv_fX2_onTheWay h00 _ _ _ _ _ _ _ _ _ _ hI (by first | assumption | exact h00) (by first | assumption | exact h00) (by first | assumption | exact h00)
set_option maxRecDepth 100000 in
set_option maxHeartbeats 4000000 in
theorem rv_fX2_step (h00 : nj 0) : ∀ (n : Nat) (pc : Nat) (r0 : Nat) (r1 : Nat) (r2 : Nat) (x3 : Int32) (x4 : Int32) (s0 : Int32) (M : ao_M) (ρ : ao_H), Rv B1 B2 0 M ρ → nj r0 → nj r1 → ∀ z, fX2_step n pc r0 r1 r2 x3 x4 s0 M ρ = some z → Rv B1 B2 0 z.2.1 z.2.2 := by
  intro n
  induction n with
  | zero => intros; exact absurd (by assumption) (by simp [fX2_step.eq_1])
  | succ n ih =>
    intro pc r0 r1 r2 x3 x4 s0 M ρ hI h_r0 h_r1
    rw [fX2_step.eq_2]
    repeat' (with_reducible (first | exact f_none | refine f_ite (fun hc => ?_) (fun hc => ?_) | refine r_letM (Rv_ua (by assumption) (by assumption) ?_) (fun M' hM' => ?_) | refine r_letM (Rv_uf (by assumption) (by assumption) (by decide)) (fun M' hM' => ?_) | refine r_letM (Rv_16 (by assumption) (by assumption) (by assumption)) (fun M' hM' => ?_) | refine f_letI (fun v => ?_) | refine f_cs (fun x => ?_) (fun E => ?_) | refine r_letM (Rv_cp (by assumption) (by assumption) ?_) (fun M' hM' => ?_) | refine r_letM (by assumption) (fun M' hM' => ?_) | refine ih _ _ _ _ _ _ _ _ _ (by assumption) ?_ ?_ | refine ih _ _ _ _ _ _ _ _ _ ?_ ?_ ?_ | refine f_bind (ih _ _ _ _ _ _ _ _ _ (by assumption) ?_ ?_) (fun y hy => ?_) | refine f_bind (rv_gX2_see h00 (by assumption) ?_ ?_) (fun y hy => ?_) | refine f_bind (rv_gX7_pop h00 (by assumption) ?_) (fun y hy => ?_) | refine f_bind (rv_gX2_write h00 (by assumption) ?_ ?_) (fun y hy => ?_) | refine f_bind (rv_gX2_again h00 (by assumption) ?_) (fun y hy => ?_) | refine f_bind (rv_gX2_say h00 (by assumption) ?_ ?_) (fun y hy => ?_) | refine f_bind (rv_gX2_beginLevel h00 (by assumption) ?_ ?_) (fun y hy => ?_) | refine f_bind (rv_gX2_closeLevel h00 (by assumption) ?_ ?_) (fun y hy => ?_) | refine f_bind (rv_gX2_retry h00 (by assumption) ?_ ?_) (fun y hy => ?_) | refine f_bind (rv_gX2_quit h00 (by assumption) ?_ ?_) (fun y hy => ?_) | refine f_bind (rv_gX2_fail h00 (by assumption) ?_ ?_) (fun y hy => ?_) | refine f_bind (rv_gX7_enterTry h00 (by assumption) ?_) (fun y hy => ?_) | refine f_bind (rv_gX7_leaveTry h00 (by assumption) ?_) (fun y hy => ?_) | refine f_bind (rv_gX2_onTheWay h00 (by assumption) ?_) (fun y hy => ?_)  | refine r_bindF (by assumption) (by assumption) (by decide) (fun j hj => ?_) | refine r_bindA (by assumption) (by assumption) (by decide) (by assumption) (fun j hj => ?_) | refine r_bindN (fun j => ?_) | refine f_some ?_ | assumption | exact nj_k (by assumption) (by assumption) (by decide) | exact h00 | refine Rv_ua (by assumption) (by assumption) ?_ | refine Rv_uf (by assumption) (by assumption) (by decide) | exact Rv_16 (by assumption) (by assumption) (by assumption) | refine Rv_cp (by assumption) (by assumption) ?_ | exact Int32.le_refl _ | exact Rv_le (by assumption) (by assumption) (by assumption) | apply And.intro))
set_option maxRecDepth 100000 in
set_option maxHeartbeats 4000000 in
theorem rv_gX2_step (h00 : nj 0) {n : Nat} {r0 : Nat} {r1 : Nat} {M : ao_M} {ρ : ao_H} (hI : Rv B1 B2 0 M ρ) (h_r0 : nj r0) (h_r1 : nj r1) : ∀ z, gX2_step n r0 r1 M ρ = some z → Rv B1 B2 0 z.2.1 z.2.2 := by
  unfold gX2_step
  exact rv_fX2_step h00 _ _ _ _ _ _ _ _ _ _ hI (by first | assumption | exact h00) (by first | assumption | exact h00)
set_option maxRecDepth 100000 in
set_option maxHeartbeats 4000000 in
theorem rv_fX2_takeTurn (h00 : nj 0) : ∀ (n pc r0 r1 : Nat) (x2 s0 : Int32) (M : ao_M) (ρ : ao_H), Rv B1 B2 0 M ρ → nj r0 → nj r1 → pc ≠ 0 → ∀ z, fX2_takeTurn n pc r0 r1 x2 s0 M ρ = some z → Rv B1 B2 0 z.2.1 z.2.2 := by
  intro n
  induction n with
  | zero => intros; exact absurd (by assumption) (by simp [fX2_takeTurn.eq_1])
  | succ n ih =>
    intro pc r0 r1 x2 s0 M ρ hI h_r0 h_r1 hpc
    rw [fX2_takeTurn.eq_2, if_neg hpc]
    repeat' (with_reducible (first | exact (by decide : (31 : Nat) ≠ 0) | exact (by decide : (55 : Nat) ≠ 0) | exact (by decide : (66 : Nat) ≠ 0) | (first | exact f_none | refine f_ite (fun hc => ?_) (fun hc => ?_) | refine r_letM (Rv_ua (by assumption) (by assumption) ?_) (fun M' hM' => ?_) | refine r_letM (Rv_uf (by assumption) (by assumption) (by decide)) (fun M' hM' => ?_) | refine r_letM (Rv_16 (by assumption) (by assumption) (by assumption)) (fun M' hM' => ?_) | refine f_letI (fun v => ?_) | refine f_cs (fun x => ?_) (fun E => ?_) | refine r_letM (Rv_cp (by assumption) (by assumption) ?_) (fun M' hM' => ?_) | refine r_letM (by assumption) (fun M' hM' => ?_) | refine ih _ _ _ _ _ _ _ (by assumption) ?_ ?_ ?_ | refine f_bind (rv_gX2_stir h00 (by assumption) ?_ ?_) (fun y hy => ?_) | refine f_bind (rv_gX7_isLeft h00 (by assumption) ?_) (fun y hy => ?_) | refine f_bind (rv_gX2_step h00 (by assumption) ?_ ?_) (fun y hy => ?_)  | refine r_bindF (by assumption) (by assumption) (by decide) (fun j hj => ?_) | refine r_bindA (by assumption) (by assumption) (by decide) (by assumption) (fun j hj => ?_) | refine r_bindN (fun j => ?_) | refine f_some ?_ | assumption | exact nj_k (by assumption) (by assumption) (by decide) | exact h00 | refine Rv_ua (by assumption) (by assumption) ?_ | refine Rv_uf (by assumption) (by assumption) (by decide) | exact Rv_16 (by assumption) (by assumption) (by assumption) | refine Rv_cp (by assumption) (by assumption) ?_ | exact Int32.le_refl _ | exact Rv_le (by assumption) (by assumption) (by assumption) | apply And.intro)))
set_option maxRecDepth 100000 in
set_option maxHeartbeats 4000000 in
/-- a turn: with now set, and counted -/
theorem rv_gX2_takeTurn {n r1 : Nat} {C : ao_M} (hI : Rv B1 B2 0 (ao_u (ao_u M 12 6 (M 12 4)) 12 4 (M 12 4 + 1)) ρ) (h1 : nj r1) : ∀ z, gX2_takeTurn n 12 r1 M ρ = some z → Rv B1 B2 0 z.2.1 z.2.2 := by
  have h00 : nj 0 := ⟨by omega, by omega⟩
  have h12 : nj 12 := ⟨by omega, by omega⟩
  unfold gX2_takeTurn
  cases n with
  | zero => intro z h; rw [fX2_takeTurn.eq_1] at h; exact nomatch h
  | succ n =>
    rw [fX2_takeTurn.eq_2, if_pos rfl]
    refine f_ite (fun hc => ?_) (fun hc => f_none)
    have e4 : ao_u M 12 6 (M 12 4) 12 4 = M 12 4 := u_ne (by omega)
    simp only [ao_let, e4]
    generalize ao_u (ao_u M 12 6 (M 12 4)) 12 4 (M 12 4 + 1) = M' at hI ⊢
    refine f_ite (fun hk => ?_) (fun hc => f_none)
    refine f_ite (fun hd => ?_) (fun hd => ?_)
    · refine f_bind (rv_gX2_stir h00 hI h12 h1) (fun y hy => ?_)
      exact rv_fX2_takeTurn h00 _ _ _ _ _ _ _ _ hy h12 h1 (by omega)
    · refine f_bind (rv_gX7_isLeft h00 hI h1) (fun y hy => ?_)
      refine f_ite (fun hd => ?_) (fun hd => rv_fX2_takeTurn h00 _ _ _ _ _ _ _ _ hy h12 h1 (by omega))
      exact f_ite (fun hd => f_some hy) (fun hd => f_some hy)
end Rm
