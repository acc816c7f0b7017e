set_option linter.unusedSimpArgs false
set_option linter.unusedVariables false
/-! ===== a thread, on both sides ===== -/
/-- nests: (0, b) a level that began at b, (1, b) an atom that is no level, (2, b) a try -/
def nl (l : List (Nat × Nat)) : Nat := l.countP (fun e => e.1 == 0)
def ns (l : List (Nat × Nat)) : Nat := l.countP (fun e => e.1 == 0 || e.1 == 1)
def nt (l : List (Nat × Nat)) : Nat := l.countP (fun e => e.1 == 2)
theorem nl_c0 {b : Nat} {l : List (Nat × Nat)} : nl ((0, b) :: l) = nl l + 1 := by simp [nl]
theorem nl_c1 {b : Nat} {l : List (Nat × Nat)} : nl ((1, b) :: l) = nl l := by simp [nl]
theorem nl_c2 {b : Nat} {l : List (Nat × Nat)} : nl ((2, b) :: l) = nl l := by simp [nl]
theorem ns_c0 {b : Nat} {l : List (Nat × Nat)} : ns ((0, b) :: l) = ns l + 1 := by simp [ns]
theorem ns_c1 {b : Nat} {l : List (Nat × Nat)} : ns ((1, b) :: l) = ns l + 1 := by simp [ns]
theorem ns_c2 {b : Nat} {l : List (Nat × Nat)} : ns ((2, b) :: l) = ns l := by simp [ns]
theorem nt_c0 {b : Nat} {l : List (Nat × Nat)} : nt ((0, b) :: l) = nt l := by simp [nt]
theorem nt_c1 {b : Nat} {l : List (Nat × Nat)} : nt ((1, b) :: l) = nt l := by simp [nt]
theorem nt_c2 {b : Nat} {l : List (Nat × Nat)} : nt ((2, b) :: l) = nt l + 1 := by simp [nt]
theorem nl_le {l : List (Nat × Nat)} : nl l ≤ l.length := List.countP_le_length
theorem ns_le {l : List (Nat × Nat)} : ns l ≤ l.length := List.countP_le_length
theorem nt_le {l : List (Nat × Nat)} : nt l ≤ l.length := List.countP_le_length
/-- each rest of a nest is the nest where its first began -/
def chd (N : Nat → List (Nat × Nat)) (op : Nat → Int32) (len : Nat) : List (Nat × Nat) → Prop
  | [] => True
  | e :: l => l = N e.2 ∧ e.2 < len ∧ (e.1 = 0 ∧ op e.2 = 16 ∨ e.1 = 1 ∧ 1 ≤ nl l ∨ e.1 = 2 ∧ op e.2 = 21) ∧ chd N op len l
abbrev Fn : Type := Nat → Int32
abbrev Ns : Type := Nat → List (Nat × Nat)
def nxt (φ : Nat → Nat) (N : Ns) (H K : Nat → Nat) (i k h : Nat) : Prop := φ (i + 1) = φ i + k ∧ N (i + 1) = N i ∧ H (i + 1) = h ∧ K i < K (i + 1)
def jmp (len : Nat) (N : Ns) (H K : Nat → Nat) (i T : Nat) : Prop := T ≤ len ∧ N T = N i ∧ H T = 0 ∧ K i < K T
/-- instruction i of the class and what the reference has for it -/
def ins (op fi se d : Fn) (len : Nat) (φ : Nat → Nat) (N : Ns) (H K : Nat → Nat) (i : Nat) : Prop :=
  (op i = 1 ∧ d (3 * φ i) = 0 ∧ d (3 * φ i + 1) = fi i ∧ nxt φ N H K i 1 (H i + 1)) ∨
  (op i = 2 ∧ d (3 * φ i) = 1 ∧ (∃ r, r < 26 ∧ fi i = nI r ∧ d (3 * φ i + 1) = nI r) ∧ nxt φ N H K i 1 (H i + 1)) ∨
  (op i = 3 ∧ d (3 * φ i) = 2 ∧ (∃ r, r < 26 ∧ fi i = nI r ∧ d (3 * φ i + 1) = nI r) ∧ nxt φ N H K i 1 (H i + 1)) ∨
  ((op i = 4 ∧ d (3 * φ i) = 3 ∨ op i = 5 ∧ d (3 * φ i) = 4 ∨ op i = 6 ∧ d (3 * φ i) = 5 ∨ op i = 7 ∧ d (3 * φ i) = 7 ∨ op i = 8 ∧ d (3 * φ i) = 8) ∧ 2 ≤ H i ∧ nxt φ N H K i 1 (H i - 1)) ∨
  (op i = 9 ∧ d (3 * φ i) = 6 ∧ 1 ≤ H i ∧ nxt φ N H K i 1 (H i)) ∨
  (op i = 10 ∧ d (3 * φ i) = 9 ∧ (∃ r, r < 26 ∧ fi i = nI r ∧ d (3 * φ i + 1) = nI r) ∧ H i = 1 ∧ nxt φ N H K i 1 0) ∨
  (op i = 11 ∧ d (3 * φ i) = 10 ∧ (∃ r, r < 26 ∧ fi i = nI r ∧ d (3 * φ i + 1) = nI r) ∧ H i = 1 ∧ nxt φ N H K i 1 0) ∨
  (op i = 12 ∧ d (3 * φ i) = 12 ∧ H i = 0 ∧ ∃ T, fi i = nI T ∧ d (3 * φ i + 1) = nI (φ T) ∧ jmp len N H K i T) ∨
  (op i = 13 ∧ d (3 * φ i) = 11 ∧ H i = 1 ∧ nxt φ N H K i 1 0 ∧ ∃ T, fi i = nI T ∧ d (3 * φ i + 1) = nI (φ T) ∧ jmp len N H K i T) ∨
  (op i = 14 ∧ d (3 * φ i) = 11 ∧ H i = 1 ∧ d (3 * (φ i + 1)) = 13 ∧ φ (i + 1) = φ i + 2 ∧ N (i + 1) = N i ∧ H (i + 1) = 0 ∧ ∃ T, fi i = nI T ∧ d (3 * φ i + 1) = nI (φ T) ∧ jmp len N H K i T) ∨
  (op i = 15 ∧ d (3 * φ i) = 14 ∧ H i = 1 ∧ nxt φ N H K i 1 0) ∨
  (op i = 16 ∧ d (3 * φ i) = 15 ∧ H i = 0 ∧ φ (i + 1) = φ i + 1 ∧ N (i + 1) = (0, i) :: N i ∧ H (i + 1) = 0 ∧ K i < K (i + 1) ∧ ∃ B r m, se i = nI B ∧ d (3 * φ i + 2) = nI (φ B) ∧ B ≤ len ∧ N B = N i ∧ H B = 0 ∧ d (3 * φ i + 1) = nI (2 * r + m) ∧ m ≤ 1 ∧ (nl (N i) = 0 ∨ m = 0 ∨ 1 ≤ r) ∧
    (fi i = -1 ∧ r = 0 ∨ ∃ T, fi i = nI T ∧ r = φ T + 1 ∧ T ≤ len ∧ N T = (0, i) :: N i ∧ H T = 0)) ∨
  (op i = 17 ∧ d (3 * φ i) = 16 ∧ H i = 0 ∧ ∃ b B, N i = (0, b) :: N b ∧ se b = nI B ∧ B ≤ len ∧ N B = N b ∧ H B = 0 ∧ K i < K B ∧ (φ B = φ i + 1 ∨ d (3 * (φ i + 1)) = 12 ∧ d (3 * (φ i + 1) + 1) = nI (φ B))) ∨
  (op i = 18 ∧ d (3 * φ i) = 17 ∧ H i = 0 ∧ 1 ≤ nl (N i)) ∨
  (op i = 19 ∧ d (3 * φ i) = 18 ∧ H i = 0 ∧ 1 ≤ nl (N i)) ∨
  (op i = 20 ∧ d (3 * φ i) = 19 ∧ H i = 1 ∧ ∀ b, (2, b) ∈ N i → ∀ T, fi b = nI T → T ≤ len → K i < K T) ∨
  (op i = 21 ∧ d (3 * φ i) = 20 ∧ H i = 0 ∧ φ (i + 1) = φ i + 1 ∧ N (i + 1) = (2, i) :: N i ∧ H (i + 1) = 0 ∧ K i < K (i + 1) ∧ ∃ T r, fi i = nI T ∧ d (3 * φ i + 1) = nI (φ T) ∧ se i = nI r ∧ d (3 * φ i + 2) = nI r ∧ r < 26 ∧ T ≤ len ∧ N T = N i ∧ H T = 0) ∨
  (op i = 22 ∧ d (3 * φ i) = 21 ∧ H i = 0 ∧ d (3 * (φ i + 1)) = 12 ∧ ∃ b T, N i = (2, b) :: N b ∧ fi i = nI T ∧ d (3 * (φ i + 1) + 1) = nI (φ T) ∧ T ≤ len ∧ N T = N b ∧ H T = 0 ∧ K i < K T) ∨
  (op i = 0 ∧ d (3 * φ i) = 15 ∧ d (3 * φ i + 1) = 1 ∧ H i = 0 ∧ 1 ≤ nl (N i) ∧ φ (i + 1) = φ i + 1 ∧ N (i + 1) = (1, i) :: N i ∧ H (i + 1) = 0 ∧ K i < K (i + 1)) ∨
  (op i = 0 ∧ d (3 * φ i) = 16 ∧ H i = 0 ∧ φ (i + 1) = φ i + 1 ∧ H (i + 1) = 0 ∧ K i < K (i + 1) ∧ ∃ b, N i = (1, b) :: N b ∧ N (i + 1) = N b)
/-- a program, as both sides have it -/
def Cok (op fi se d : Fn) (len : Nat) (φ : Nat → Nat) (N : Ns) (H K : Nat → Nat) : Prop :=
  len ≤ 1000 ∧ φ 0 = 0 ∧ N 0 = [] ∧ H 0 = 0 ∧ (d (3 * φ len) = 22 ∧ N len = [] ∧ H len = 0) ∧ (∀ i, i ≤ len → φ i + 2 < 6000 ∧ (N i).length ≤ 10 ∧ H i ≤ 40 ∧ chd N op len (N i)) ∧ ∀ i, i < len → ins op fi se d len φ N H K i
/-- what lies ready for a nest's entry -/
def Ent (C D : ao_M) (t : Nat) (fi se : Fn) (len : Nat) (φ : Nat → Nat) (N : Ns) (e : Nat × Nat) : Prop :=
  (e.1 = 0 → C (92 + 71 * t + 8 + 6 * nl (N e.2)) 8 = nI e.2 ∧ C (92 + 71 * t + 8 + 6 * nl (N e.2)) 11 = nI (nt (N e.2)) ∧ D 570 (t * 12 + nl (N e.2)) = nI (φ e.2 + 1) ∧
    (fi e.2 = -1 ∧ D 571 (t * 12 + nl (N e.2)) = -1 ∨ ∃ T, T ≤ len ∧ fi e.2 = nI T ∧ D 571 (t * 12 + nl (N e.2)) = nI (φ T)) ∧ (∃ B, B ≤ len ∧ se e.2 = nI B ∧ D 572 (t * 12 + nl (N e.2)) = nI (φ B)) ∧
    D 573 (t * 12 + nl (N e.2)) = nI (ns (N e.2) + 1) ∧ D 574 (t * 12 + nl (N e.2)) = nI (nt (N e.2)) ∧ D 565 (t * 12 + ns (N e.2)) = nI (nl (N e.2))) ∧
  (e.1 = 1 → D 565 (t * 12 + ns (N e.2)) = -1) ∧
  (e.1 = 2 → C (92 + 71 * t + 68) (nt (N e.2)) = nI e.2 ∧ C (92 + 71 * t + 69) (nt (N e.2)) = nI (nl (N e.2)) ∧ (∃ T, T ≤ len ∧ fi e.2 = nI T ∧ D 566 (t * 12 + nt (N e.2)) = nI (φ T)) ∧ D 567 (t * 12 + nt (N e.2)) = se e.2 ∧ (∃ r, r < 26 ∧ se e.2 = nI r) ∧ D 568 (t * 12 + nt (N e.2)) = nI (nl (N e.2)) ∧ D 569 (t * 12 + nt (N e.2)) = nI (ns (N e.2)))
/-- the writes of a level -/
def Wr (C D : ao_M) (t j : Nat) : Prop := (∀ p, 26 ≤ p → bt (C (92 + 71 * t + 8 + 6 * j) 6) p = false) ∧ ∀ p, p < 26 → D 578 ((t * 12 + j) * 26 + p) = (if bt (C (92 + 71 * t + 8 + 6 * j) 6) p = true then 1 else 0) ∧ (bt (C (92 + 71 * t + 8 + 6 * j) 6) p = true → C (92 + 71 * t + 8 + 6 * j + 4) p = D 582 ((t * 12 + j) * 26 + p))
def Rd (C D : ao_M) (rc t j : Nat) : Prop := ∃ ps vs ws, RdC C (92 + 71 * t + 8 + 6 * j) ps vs ws ∧ RdD D (t * 12 + j) rc ps vs ws
/-- a level -/
def Lv (C D : ao_M) (rc t j : Nat) : Prop := (C (92 + 71 * t + 8 + 6 * j) 9 = D 576 (t * 12 + j) ∧ (D 576 (t * 12 + j) = 0 ∨ D 576 (t * 12 + j) = 1)) ∧ (∀ k, k < 26 → C (92 + 71 * t + 8 + 6 * j + 5) k = D 575 ((t * 12 + j) * 26 + k)) ∧ Wr C D t j ∧ Rd C D rc t j
def cat (hl : Nat → List Int32) : Nat → List Int32
  | 0 => []
  | j + 1 => cat hl j ++ hl j
/-- what is held -/
def Held (C D : ao_M) (t dp : Nat) : Prop := ∃ hl : Nat → List Int32, (∀ j, j < dp → (hl j).length ≤ 200 ∧ D 584 (t * 12 + j) = nI (hl j).length ∧ C (92 + 71 * t + 8 + 6 * j) 10 = nI (min 200 (cat hl j).length) ∧ ∀ (i : Nat) (h : i < (hl j).length), D 583 ((t * 12 + j) * 200 + i) = (hl j)[i]) ∧
  C (92 + 71 * t) 13 = nI (min 200 (cat hl dp).length) ∧ ∀ (i : Nat) (h : i < (cat hl dp).length), i < 200 → C (92 + 71 * t + 70) i = (cat hl dp)[i]
def Regs (C D : ao_M) (t : Nat) : Prop := ∀ k, k < 26 → C (92 + 71 * t + 6) k = D 553 (t * 26 + k)
def Stk (C D : ao_M) (t h : Nat) : Prop := C (92 + 71 * t) 5 = nI h ∧ D 555 t = nI h ∧ ∀ i, i < h → C (92 + 71 * t + 5) i = D 554 (t * 64 + i)
def Pos (C D : ao_M) (t : Nat) (d : Fn) (φ : Nat → Nat) (at' : Nat) : Prop := C (92 + 71 * t) 3 = nI at' ∧ ∃ q, D 552 t = nI q ∧ q < 6000 ∧ (q = φ at' ∨ d (3 * q) = 12 ∧ d (3 * q + 1) = nI (φ at'))
/-- within levels -/
def Ins (C D : ao_M) (rc t dp : Nat) : Prop := C (92 + 71 * t) 8 = nI dp ∧ (∀ j, j < dp → Lv C D rc t j) ∧ Held C D t dp
def Ctl (C D : ao_M) (t : Nat) (fi se : Fn) (len : Nat) (φ : Nat → Nat) (N : Ns) (l : List (Nat × Nat)) : Prop := C (92 + 71 * t) 11 = nI (nt l) ∧ D 558 t = nI (nt l) ∧ D 557 t = nI (ns l) ∧ ∀ e ∈ l, Ent C D t fi se len φ N e
/-- where a runner's code lies -/
def Cat (C : ao_M) (ρ : ao_H) (t len kd a1 a2 a3 : Nat) : Prop := ρ.1 (92 + 71 * t) 1 = some kd ∧ ρ.2.1 kd = 11 ∧ ρ.1 kd 1 = some a1 ∧ ρ.1 kd 2 = some a2 ∧ ρ.1 kd 3 = some a3 ∧ ρ.2.1 a1 = 0 ∧ ρ.2.1 a2 = 0 ∧ ρ.2.1 a3 = 0 ∧ ρ.2.2.1 a1 = len ∧ ρ.2.2.1 a2 = len ∧ ρ.2.2.1 a3 = len ∧ C kd 0 = nI len ∧ C kd 4 = nI len ∧
  599 ≤ kd ∧ 599 ≤ a1 ∧ 599 ≤ a2 ∧ 599 ≤ a3 ∧ ¬ PAc ρ kd ∧ ¬ PAc ρ a1 ∧ ¬ PAc ρ a2 ∧ ¬ PAc ρ a3 ∧ ∃ z, ρ.2.2.2.1 = some z ∧ kd < z ∧ a1 < z ∧ a2 < z ∧ a3 < z
/-- the reference's code of a thread -/
def dcd (D : ao_M) (t : Nat) : Fn := fun x => if x < 18000 then D 550 (t * 18000 + x) else 0
/-- a thread: s its state, its code given -/
def Run (C D : ao_M) (rc t s : Nat) (op fi se d : Fn) (len : Nat) (φ : Nat → Nat) (N : Ns) (H : Nat → Nat) : Prop :=
  (s = 1 → ∃ a, a ≤ len ∧ Pos C D t d φ a ∧ Stk C D t (H a) ∧ Ctl C D t fi se len φ N (N a) ∧ nl (N a) = 0) ∧
  (s = 2 → ∃ a, a ≤ len ∧ Pos C D t d φ a ∧ Stk C D t (H a) ∧ Ctl C D t fi se len φ N (N a) ∧ 1 ≤ nl (N a) ∧ Ins C D rc t (nl (N a)) ∧ D 556 t = nI (nl (N a)) ∧ C (92 + 71 * t) 14 = D 560 t ∧ C (92 + 71 * t) 16 = D 564 t) ∧
  (s = 3 → ∃ b, b < len ∧ op b = 16 ∧ N (b + 1) = (0, b) :: N b ∧ H (b + 1) = 0 ∧ φ (b + 1) = φ b + 1 ∧ nl (N b) = 0 ∧ (∀ e ∈ (0, b) :: N b, Ent C D t fi se len φ N e) ∧ Ins C D rc t 1 ∧ ∀ p, bt (C (92 + 71 * t + 8) 6) p = false)
/-- a thread that never had a program -/
def Zro (C : ao_M) (t : Nat) : Prop := (∀ i, 16 ≤ i → i ≤ 19 → C (92 + 71 * t) i = 0) ∧ ∀ k, k < 26 → C (92 + 71 * t + 6) k = 0
def Thr (C : ao_M) (ρ : ao_H) (D : ao_M) (rc t : Nat) : Prop := ∃ s, s ≤ 5 ∧ C (92 + 71 * t) 2 = nI s ∧ D 551 t = nI s ∧ C (92 + 71 * t) 0 = nI t ∧ C (92 + 71 * t) 17 = D 559 t ∧ C (92 + 71 * t) 18 = D 562 t ∧ C (92 + 71 * t) 19 = D 561 t ∧ Regs C D t ∧
  (s ≠ 2 → s ≠ 3 → C (92 + 71 * t) 8 = 0) ∧ (s ≠ 2 → D 556 t = 0) ∧
  (s = 0 ∧ Zro C t ∨ s ≠ 0 ∧ ∃ len kd a1 a2 a3 φ N H K, Cat C ρ t len kd a1 a2 a3 ∧ Cok (C a1) (C a2) (C a3) (dcd D t) len φ N H K ∧ Run C D rc t s (C a1) (C a2) (C a3) (dcd D t) len φ N H)
