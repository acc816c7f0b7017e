set_option linter.unusedSimpArgs false
set_option linter.unusedVariables false
/-! ===== pieces put together ===== -/
abbrev Xp : Type := Fn → Fn → Fn → Fn → Nat → Gh → Prop
def agC (C : ao_M) (l l' : Nat) (op fi se : Fn) : Prop := ∀ i, l ≤ i → i < l' → op i = C 9 i ∧ fi i = C 10 i ∧ se i = C 11 i
def agD (D : ao_M) (m m' : Nat) (d : Fn) : Prop := ∀ x, 3 * m ≤ x → x < 3 * m' → d x = D 541 x
def agG (G : Gh) (l l' : Nat) (G' : Gh) : Prop := ∀ i, l ≤ i → i ≤ l' → G' i = G i
def Sg (X : Xp) (C D : ao_M) (G : Gh) (l l' m m' : Nat) (β : List (Bool × Nat)) : Prop :=
  l ≤ l' ∧ m ≤ m' ∧ (∀ i, l ≤ i → i ≤ l' → m ≤ (G i).1 ∧ (G i).1 ≤ m') ∧
  ∀ op fi se d L G', l' ≤ L → agC C l l' op fi se → agD D m m' d → agG G l l' G' → X op fi se d L G' → (∀ i, l ≤ i → i < l' → okI op fi se d L G' i) ∧ ∀ i, l ≤ i → i ≤ l' → posI op fi L β G' i
def Tr : Xp := fun _ _ _ _ _ _ => True
def glue (a : Nat) (G1 G2 : Gh) : Gh := fun i => if i < a then G1 i else G2 i
theorem glue_lt {a i : Nat} {G1 G2 : Gh} (h : i < a) : glue a G1 G2 i = G1 i := if_pos h
theorem glue_ge {a i : Nat} {G1 G2 : Gh} (h : a ≤ i) : glue a G1 G2 i = G2 i := if_neg (by omega)
theorem Sg_fr {X : Xp} {C D C' D' : ao_M} {G : Gh} {l l' m m' : Nat} {β : List (Bool × Nat)} (h : Sg X C D G l l' m m' β) (hC : ∀ i, l ≤ i → i < l' → C' 9 i = C 9 i ∧ C' 10 i = C 10 i ∧ C' 11 i = C 11 i) (hD : ∀ x, 3 * m ≤ x → x < 3 * m' → D' 541 x = D 541 x) : Sg X C' D' G l l' m m' β := by
  obtain ⟨h1, h2, h3, h4⟩ := h
  refine ⟨h1, h2, h3, fun op fi se d L G' a b c e x => h4 op fi se d L G' a (fun i p q => ?_) (fun x p q => ?_) e x⟩
  · obtain ⟨b1, b2, b3⟩ := b i p q
    obtain ⟨c1, c2, c3⟩ := hC i p q
    exact ⟨b1.trans c1, b2.trans c2, b3.trans c3⟩
  · rw [c x p q, hD x p q]
theorem Sg_X {X X' : Xp} {C D : ao_M} {G : Gh} {l l' m m' : Nat} {β : List (Bool × Nat)} (h : Sg X C D G l l' m m' β) (hx : ∀ op fi se d L G', X' op fi se d L G' → X op fi se d L G') : Sg X' C D G l l' m m' β := by
  obtain ⟨h1, h2, h3, h4⟩ := h
  exact ⟨h1, h2, h3, fun op fi se d L G' a b c e x => h4 op fi se d L G' a b c e (hx _ _ _ _ _ _ x)⟩
theorem Sg_close {X : Xp} {C D : ao_M} {G : Gh} {l l' m m' : Nat} {β : List (Bool × Nat)} (h : Sg X C D G l l' m m' β) (hx : ∀ op fi se d L G', l' ≤ L → agC C l l' op fi se → agD D m m' d → agG G l l' G' → X op fi se d L G') : Sg Tr C D G l l' m m' β := by
  obtain ⟨h1, h2, h3, h4⟩ := h
  exact ⟨h1, h2, h3, fun op fi se d L G' a b c e x => h4 op fi se d L G' a b c e (hx _ _ _ _ _ _ a b c e)⟩
theorem Sg_app {X : Xp} {C D : ao_M} {G1 G2 : Gh} {l l1 l2 m m1 m2 : Nat} {β : List (Bool × Nat)} (h : Sg X C D G1 l l1 m m1 β) (g : Sg X C D G2 l1 l2 m1 m2 β) (e : G1 l1 = G2 l1) : Sg X C D (glue l1 G1 G2) l l2 m m2 β := by
  obtain ⟨h1, h2, h3, h4⟩ := h
  obtain ⟨g1, g2, g3, g4⟩ := g
  refine ⟨by omega, by omega, fun i a b => ?_, fun op fi se d L G' a b c q x => ?_⟩
  · by_cases hi : i < l1
    · rw [glue_lt hi]
      have := h3 i a (by omega)
      omega
    · rw [glue_ge (by omega)]
      have := g3 i (by omega) b
      omega
  · have q1 : agG G1 l l1 G' := fun i p r => by
      rw [q i p (by omega)]
      by_cases hi : i < l1
      · rw [glue_lt hi]
      · have : i = l1 := by omega
        subst this
        rw [glue_ge (by omega), e]
    have q2 : agG G2 l1 l2 G' := fun i p r => by
      rw [q i (by omega) r, glue_ge p]
    obtain ⟨r1, r2⟩ := h4 op fi se d L G' (by omega) (fun i p r => b i p (by omega)) (fun x p r => c x p (by omega)) q1 x
    obtain ⟨s1, s2⟩ := g4 op fi se d L G' a (fun i p r => b i (by omega) r) (fun x p r => c x (by omega) r) q2 x
    refine ⟨fun i p r => ?_, fun i p r => ?_⟩
    · by_cases hi : i < l1
      · exact r1 i p hi
      · exact s1 i (by omega) r
    · by_cases hi : i < l1
      · exact r2 i p (by omega)
      · exact s2 i (by omega) r
/-- what lies within one more nest -/
theorem Sg_in {X X' : Xp} {C D : ao_M} {G : Gh} {l l' m m' b0 : Nat} {k : Bool} {β : List (Bool × Nat)} (h : Sg X C D G l l' m m' ((k, b0) :: β)) (hx : ∀ op fi se d L G', l' ≤ L → X' op fi se d L G' → X op fi se d L G' ∧ (G' b0).2.1 = β ∧ b0 < l ∧ (k = true → op b0 = 21 ∧ ∃ T, fi b0 = nI T ∧ l' < T ∧ T ≤ L) ∧ (k = false → op b0 = 16 ∨ op b0 = 0 ∧ 1 ≤ fc β)) : Sg X' C D G l l' m m' β := by
  obtain ⟨h1, h2, h3, h4⟩ := h
  refine ⟨h1, h2, h3, fun op fi se d L G' a b c e x => ?_⟩
  obtain ⟨x0, x1, x2, x3, x4⟩ := hx op fi se d L G' a x
  obtain ⟨r1, r2⟩ := h4 op fi se d L G' a b c e x0
  refine ⟨r1, fun i p q => ?_⟩
  obtain ⟨f, bb, hh, t1, t2, t3, t4, t5⟩ := r2 i p q
  refine ⟨f, bb, hh, t1, t2, t3, ?_, fun y hy => ?_⟩
  · rcases t4 with t4 | t4
    · exact Or.inr ⟨k, b0, β, t4, x1, by omega, fun hk => (x3 hk).1, x4⟩
    · exact Or.inr t4
  · rcases t5 y hy with t | t
    · rcases List.mem_cons.mp t with t | t
      · right
        intro hk
        rw [t] at hk ⊢
        obtain ⟨-, T, y1, y2, y3⟩ := x3 hk
        exact ⟨T, y1, by omega, y3⟩
      · exact Or.inl t
    · exact Or.inr t
def one (l : Nat) (g g' : Gv) : Gh := fun i => if i ≤ l then g else g'
theorem one_l {l : Nat} {g g' : Gv} : one l g g' l = g := if_pos (Nat.le_refl _)
theorem one_r {l : Nat} {g g' : Gv} : one l g g' (l + 1) = g' := if_neg (by omega)
theorem Sg_one {X : Xp} {C D : ao_M} {l m m' : Nat} {g g' : Gv} {β : List (Bool × Nat)} (hm : m ≤ g.1 ∧ g.1 ≤ m') (hm' : m ≤ g'.1 ∧ g'.1 ≤ m')
    (h : ∀ op fi se d L G', l + 1 ≤ L → op l = C 9 l → fi l = C 10 l → se l = C 11 l → agD D m m' d → G' l = g → G' (l + 1) = g' → X op fi se d L G' → okI op fi se d L G' l ∧ posI op fi L β G' l ∧ posI op fi L β G' (l + 1)) : Sg X C D (one l g g') l (l + 1) m m' β := by
  refine ⟨by omega, by omega, fun i a b => ?_, fun op fi se d L G' a b c e x => ?_⟩
  · unfold one
    split
    · exact hm
    · exact hm'
  · obtain ⟨b1, b2, b3⟩ := b l (Nat.le_refl _) (by omega)
    obtain ⟨r1, r2, r3⟩ := h op fi se d L G' a b1 b2 b3 c ((e l (Nat.le_refl _) (by omega)).trans one_l) ((e (l + 1) (by omega) (Nat.le_refl _)).trans one_r) x
    refine ⟨fun i p q => ?_, fun i p q => ?_⟩
    · rw [show i = l by omega]; exact r1
    · by_cases hi : i = l
      · rw [hi]; exact r2
      · rw [show i = l + 1 by omega]; exact r3
theorem pos_base {op fi : Fn} {L : Nat} {β : List (Bool × Nat)} {G : Gh} {i f h : Nat} (e : G i = (f, β, h)) (hh : h ≤ 40) (hb : β.length ≤ 10) : posI op fi L β G i := ⟨f, β, h, e, hh, hb, Or.inl rfl, fun _ he => Or.inl he⟩
/-- one instruction that stays within -/
theorem Sg_st {X : Xp} {C D : ao_M} {l m h h' w : Nat} {β : List (Bool × Nat)} (hb : β.length ≤ 10) (hh : h ≤ 40) (hh' : h' ≤ 40)
    (hk : ∀ op fi se d L G', l + 1 ≤ L → op l = C 9 l → fi l = C 10 l → se l = C 11 l → agD D m (m + w) d → G' l = (m, β, h) → G' (l + 1) = (m + w, β, h') → X op fi se d L G' → okI op fi se d L G' l) : Sg X C D (one l (m, β, h) (m + w, β, h')) l (l + 1) m (m + w) β :=
  Sg_one ⟨Nat.le_refl _, Nat.le_add_right _ _⟩ ⟨Nat.le_add_right _ _, Nat.le_refl _⟩ (fun op fi se d L G' a b c e f g g' x => ⟨hk op fi se d L G' a b c e f g g' x, pos_base g hh hb, pos_base g' hh' hb⟩)
/-! ===== both machines one beside the other ===== -/
theorem hv_seq {α β γ δ : Type} {f : Nat → Option α} {g : Nat → Option β} {k : Nat → α → Option γ} {k' : Nat → β → Option δ} {R : γ → δ → Prop} (h : hv f (fun y => hv g (fun w => hv (fun n => k n y) (fun y' => hv (fun n => k' n w) (fun w' => R y' w'))))) : hv (fun n => (f n).bind (k n)) (fun y' => hv (fun n => (g n).bind (k' n)) (fun w' => R y' w')) := by
  refine hv_bind h (fun y hy => ?_)
  obtain ⟨N, w, e, hw⟩ := hy
  refine hv_mono hw (fun y' hy' => ?_)
  exact hv_bind (P := fun v => v = w) ⟨N, w, e, rfl⟩ (fun v hv => by rw [hv]; exact hy')
theorem hv_inB {α β δ : Type} {f : Nat → Option α} {g : Nat → Option β} {k' : Nat → β → Option δ} {P : β → Prop} {R : α → δ → Prop} (h : hv g P) (q : ∀ w, P w → hv f (fun y => hv (fun n => k' n w) (fun w' => R y w'))) : hv f (fun y => hv (fun n => (g n).bind (k' n)) (fun w' => R y w')) := by
  obtain ⟨N, w, e, hw⟩ := h
  refine hv_mono (q w hw) (fun y' hy' => ?_)
  exact hv_bind (P := fun v => v = w) ⟨N, w, e, rfl⟩ (fun v hv => by rw [hv]; exact hy')
theorem hv_inU {α δ : Type} {f : Nat → Option α} {g b : Nat → Option δ} {R : α → δ → Prop} (e : ∀ n, g (n + 1) = b n) (q : hv f (fun y => hv b (fun w' => R y w'))) : hv f (fun y => hv g (fun w' => R y w')) := hv_mono q (fun _ h => hv_up e h)
theorem hv_inE {α δ : Type} {f : Nat → Option α} {g b : Nat → Option δ} {R : α → δ → Prop} (e : ∀ n, g n = b n) (q : hv f (fun y => hv b (fun w' => R y w'))) : hv f (fun y => hv g (fun w' => R y w')) := by
  have : g = b := funext e
  rw [this]; exact q
/-! ===== the parsers' states ===== -/
/-- what the reference throws when a text is broken -/
def ShX (σ : ao_H) : Prop := σ.1 537 1 = some 538 ∧ σ.2.1 538 = 21
def PE (ρ σ : ao_H) (s : Fn) (len e : Nat) : Prop := ShA ρ ∧ ShD σ ∧ len ≤ 1000 ∧ e ≤ len ∧ kd s len e = 0 ∧ (∀ i, i < e → kd s len i ≠ 0) ∧ (∀ i, i < len → bytP (s i)) ∧ ShX σ
/-- the class at token i, with l instructions -/
def PC (C : ao_M) (s : Fn) (len e i l st : Nat) : Prop := TA C s len e ∧ AtC C s len i ∧ C 8 0 = 1000 ∧ C 8 4 = nI l ∧ C 8 5 = nI st
/-- the reference at token i, with m instructions -/
def PD (D : ao_M) (σ : ao_H) (s : Fn) (len i m dep st wi : Nat) : Prop := DT D σ s len ∧ AtD D s len i ∧ D 537 13 = nI m ∧ D 537 14 = nI dep ∧ D 537 15 = nI st ∧ D 537 16 = nI wi
/-- what a parser leaves alone -/
def FrC (C0 C : ao_M) (l : Nat) : Prop := (∀ x j, ¬ (x = 2 ∧ j = 2 ∨ x = 3 ∧ 7 ≤ j ∧ j ≤ 10 ∨ x = 8 ∧ (j = 4 ∨ j = 5) ∨ x = 9 ∨ x = 10 ∨ x = 11) → C x j = C0 x j) ∧ (∀ j, j < l → C 9 j = C0 9 j ∧ C 10 j = C0 10 j ∧ C 11 j = C0 11 j)
def FrD (D0 D : ao_M) (m : Nat) : Prop := (∀ x j, ¬ (x = 537 ∧ (j = 2 ∨ 8 ≤ j ∧ j ≤ 11 ∨ 13 ≤ j ∧ j ≤ 16) ∨ x = 541) → D x j = D0 x j) ∧ (∀ x, x < 3 * m → D 541 x = D0 541 x)
theorem FrC_rf {C : ao_M} {l : Nat} : FrC C C l := ⟨fun _ _ _ => rfl, fun _ _ => ⟨rfl, rfl, rfl⟩⟩
theorem FrD_rf {D : ao_M} {m : Nat} : FrD D D m := ⟨fun _ _ _ => rfl, fun _ _ => rfl⟩
theorem FrC_tr {C0 C1 C2 : ao_M} {l l' : Nat} (h : FrC C0 C1 l) (g : FrC C1 C2 l') (hl : l ≤ l') : FrC C0 C2 l := by
  obtain ⟨h1, h2⟩ := h
  obtain ⟨g1, g2⟩ := g
  refine ⟨fun x j q => (g1 x j q).trans (h1 x j q), fun j hj => ?_⟩
  obtain ⟨a1, a2, a3⟩ := h2 j hj
  obtain ⟨b1, b2, b3⟩ := g2 j (by omega)
  exact ⟨b1.trans a1, b2.trans a2, b3.trans a3⟩
theorem FrD_tr {D0 D1 D2 : ao_M} {m m' : Nat} (h : FrD D0 D1 m) (g : FrD D1 D2 m') (hm : m ≤ m') : FrD D0 D2 m := ⟨fun x j q => (g.1 x j q).trans (h.1 x j q), fun x hx => (g.2 x (by omega)).trans (h.2 x hx)⟩
/-- how a piece of a parser ends, on both sides -/
def PO (C0 D0 : ao_M) (σ : ao_H) (s : Fn) (len e l m : Nat) (Q : ao_M → ao_M → Prop) (y : Int32 × ao_M) (w : (Int32 ⊕ String) × ao_S) : Prop :=
  w.2.2 = σ ∧ FrC C0 y.2 l ∧ FrD D0 w.2.1 m ∧ (y.1 = 1 ∧ w.1 = .inl 0 ∧ Q y.2 w.2.1 ∨ y.1 = 0 ∧ w.1 = .inr RX11 ∧ ∃ i, i ≤ e ∧ y.2 2 2 = nI (bg s len i) ∧ w.2.1 537 2 = nI (bg s len i))
theorem PO_tr {C0 D0 C1 D1 : ao_M} {σ : ao_H} {s : Fn} {len e l m l' m' : Nat} {Q Q' : ao_M → ao_M → Prop} {y : Int32 × ao_M} {w : (Int32 ⊕ String) × ao_S} (h : PO C1 D1 σ s len e l' m' Q y w) (hC : FrC C0 C1 l) (hD : FrD D0 D1 m) (hl : l ≤ l') (hm : m ≤ m') (hq : Q y.2 w.2.1 → Q' y.2 w.2.1) : PO C0 D0 σ s len e l m Q' y w := by
  obtain ⟨h1, h2, h3, h4⟩ := h
  refine ⟨h1, FrC_tr hC h2 hl, FrD_tr hD h3 hm, ?_⟩
  rcases h4 with ⟨a, b, c⟩ | h4
  · exact Or.inl ⟨a, b, hq c⟩
  · exact Or.inr h4
