/-! ===== rows that read and write the heap ===== -/
/-- a number is put at place k of thing i -/
def ao_sI (σ : ao_S) (i k : Nat) (x : Int32) : ao_S := (fun a j => if a = i ∧ j = k then x else σ.1 a j, σ.2)
/-- a reference is put there -/
def ao_sR (σ : ao_S) (i k : Nat) (r : Option Nat) : ao_S := (σ.1, fun a j => if a = i ∧ j = k then r else σ.2.1 a j, σ.2.2)
theorem ao_Rp_one {Γ : ao_C} {σ σ' : ao_S} {H H' : Heap} {i : Nat} (hR : ao_Rp Γ σ H) (hk : σ'.2.2 = σ.2.2) (hM : ∀ a, a ≠ i → σ'.1 a = σ.1 a ∧ σ'.2.1 a = σ.2.1 a) (hz : H'.size = H.size) (ho : ∀ q, q ≠ Γ.2.2.2 + i → H'[q]? = H[q]?) (hi : ao_at Γ σ' i H') : ao_Rp Γ σ' H' := by
  obtain ⟨M, F, κ, L, z, u⟩ := σ
  obtain ⟨M', F', κ', L', z', u'⟩ := σ'
  simp only at hk hM
  cases hk
  refine ⟨by rw [hz]; exact hR.1, fun a => ?_, fun n hn => by rw [hz]; exact hR.2.2 n hn⟩
  by_cases e : a = i
  · subst e
    exact hi
  · obtain ⟨h1, h2⟩ := hR.2.1 a
    have hq : H'[Γ.2.2.2 + a]? = H[Γ.2.2.2 + a]? := ho _ (by omega)
    refine ⟨fun k hk hκ => ?_, fun ci q hq' hκ => ?_⟩
    · have h3 := h1 k hk hκ
      simp only at h3 ⊢
      rw [(hM a e).1, (hM a e).2, hq]
      exact h3
    · have h3 := (h2 ci q hq' hκ).kept hq
      simp only at h3 ⊢
      rw [(hM a e).1, (hM a e).2]
      exact h3
theorem ao_S_put {Γ : ao_C} {H0 H H1 : Heap} {locs : List Loc} {i k : Nat} (h : va_S (ao_fr Γ) H0 H locs) (z : H1.size = H.size) (oq : ∀ q : Nat, q ≠ Γ.2.2.2 + i → H1[q]? = H[q]?) : va_S (ao_fr Γ) H0 H1 (locs ++ [⟨Γ.2.2.2 + i, k⟩]) :=
  h.put z oq (Nat.le_add_right _ _)
section AoH
variable {Γ : ao_C} {μ : ao_Mi} {R : Room} {Q : List Frame → Array Value → State → State → Prop} {mc ms pc : Nat} {lo : List (Option Value)} {st : List Value} {σ : ao_S}
theorem ao_get (i ci k : Nat) {q : vw_C} {index : Nat} {v : Value} (hd : decode μ.2.1 pc = .ok (.getfield index, 3)) (hq : vwCl[ci]? = some q) (hk : σ.2.2.1 i = 10 + ci) (hkn : k < q.2.2)
    (hw : Cond.fieldLink μ.1.cls index (q.2.1 k).1 (q.2.1 k).2.1 (q.2.1 k).2.2.1 ∈ ao_G) (hv : ao_v Γ.2.2.2 (ao_ft ci k) (σ.1 i k) (σ.2.1 i k) = v)
    (kk : ao_W Γ μ R Q mc ms (pc + 3) lo (v :: st) σ) : ao_W Γ μ R Q mc ms pc lo (.ref (Γ.2.2.2 + i) :: st) σ := by
  refine ao_step (fun p e s m args below meth c H locs cells slots ls hX hR hl kk => ?_) kk
  obtain ⟨cell, q1, q2, q3, q4⟩ := (hR.2.1 i).2 ci q hq hk
  obtain ⟨hx, hb, -, -, -, -, hown, hts, -, hK⟩ := hX
  obtain ⟨hS, hfc, kC, hkC, hkind⟩ := hK.1.1 ci _ hq
  obtain ⟨cf, kf, fi, f, hi, hsl⟩ := hS k hkn
  refine W.getf hx hb hown (hts _ hw) hi (u_facts hfc hkC (u_lays hts (ao_ck hq).1 hkn) hi).1 q1 (by rw [q3]; exact fun h => by cases h) (v := v) ?_ rfl rfl hd kk
  rw [hsl, q4 k hkn]
  exact congrArg some hv
theorem ao_getI (i ci k : Nat) {q : vw_C} {index : Nat} (hd : decode μ.2.1 pc = .ok (.getfield index, 3)) (hq : vwCl[ci]? = some q) (hk : σ.2.2.1 i = 10 + ci) (hkn : k < q.2.2) (ht : ao_ft ci k = 0)
    (hw : Cond.fieldLink μ.1.cls index (q.2.1 k).1 (q.2.1 k).2.1 (q.2.1 k).2.2.1 ∈ ao_G) (kk : ao_W Γ μ R Q mc ms (pc + 3) lo (.int (σ.1 i k) :: st) σ) : ao_W Γ μ R Q mc ms pc lo (.ref (Γ.2.2.2 + i) :: st) σ :=
  ao_get i ci k hd hq hk hkn hw (by rw [ht]; rfl) kk
theorem ao_getR (i ci k j : Nat) {q : vw_C} {index : Nat} (hd : decode μ.2.1 pc = .ok (.getfield index, 3)) (hq : vwCl[ci]? = some q) (hk : σ.2.2.1 i = 10 + ci) (hkn : k < q.2.2) (ht : ao_ft ci k = 2)
    (hw : Cond.fieldLink μ.1.cls index (q.2.1 k).1 (q.2.1 k).2.1 (q.2.1 k).2.2.1 ∈ ao_G) (hf : σ.2.1 i k = some j) (kk : ao_W Γ μ R Q mc ms (pc + 3) lo (.ref (Γ.2.2.2 + j) :: st) σ) : ao_W Γ μ R Q mc ms pc lo (.ref (Γ.2.2.2 + i) :: st) σ :=
  ao_get i ci k hd hq hk hkn hw (by rw [ht, hf]; rfl) kk
/-- what stands in a field's place behind a put -/
theorem ao_at_put {σ' : ao_S} {H H' : Heap} {i ci k : Nat} {q : vw_C} {iS : Nat → Nat} {cell : Cell} {v : Value} (hq : vwCl[ci]? = some q) (hk : σ.2.2.1 i = 10 + ci) (hkn : k < q.2.2) (hσ : σ'.2.2 = σ.2.2) (hiS : iS = Γ.2.1.2 ci)
    (q2 : cell.cls = Γ.2.1.1 ci) (q3 : cell.vm = .none) (q4 : ∀ j, j < q.2.2 → cell.slots[iS j]? = some (ao_v Γ.2.2.2 (ao_ft ci j) (σ.1 i j) (σ.2.1 i j))) (hap : ∀ x y, x < q.2.2 → y < q.2.2 → x ≠ y → iS x ≠ iS y)
    (e1 : H'[Γ.2.2.2 + i]? = some (cell.setSlot (iS k) v)) (hv : ao_v Γ.2.2.2 (ao_ft ci k) (σ'.1 i k) (σ'.2.1 i k) = v) (ho : ∀ j, j ≠ k → σ'.1 i j = σ.1 i j ∧ σ'.2.1 i j = σ.2.1 i j) : ao_at Γ σ' i H' := by
  subst hiS
  have hk' : σ'.2.2.1 i = 10 + ci := by rw [hσ]; exact hk
  refine ⟨fun k' hk7 hκ => absurd (hk'.symm.trans hκ) (by omega), fun ci' q' hq' hκ => ?_⟩
  have hci : ci' = ci := by omega
  subst hci
  have hqq : q' = q := Option.some.inj (hq'.symm.trans hq)
  subst hqq
  refine ⟨_, e1, q2, q3, fun j hj => ?_⟩
  rw [t_set q4 hap hkn v j hj]
  by_cases e : j = k
  · subst e
    simp [updV, hv]
  · simp only [updV, if_neg e]
    rw [(ho j e).1, (ho j e).2]
theorem ao_put {σ' : ao_S} (i ci k : Nat) {q : vw_C} {index : Nat} {v : Value} (hd : decode μ.2.1 pc = .ok (.putfield index, 3)) (hq : vwCl[ci]? = some q) (hk : σ.2.2.1 i = 10 + ci) (hkn : k < q.2.2)
    (hw : Cond.fieldLink μ.1.cls index (q.2.1 k).1 (q.2.1 k).2.1 (q.2.1 k).2.2.1 ∈ ao_G) (hfin : (q.2.1 k).2.2.2 = false ∨ (μ.1.name = "<init>" ∧ (q.2.1 k).1 = μ.1.cls)) (hn : narrow (ao_ty ci k) v = v) (hft : fits (ao_ty ci k) v = true)
    (hσ : σ'.2.2 = σ.2.2) (hM : ∀ a, a ≠ i → σ'.1 a = σ.1 a ∧ σ'.2.1 a = σ.2.1 a) (hv : ao_v Γ.2.2.2 (ao_ft ci k) (σ'.1 i k) (σ'.2.1 i k) = v) (ho : ∀ j, j ≠ k → σ'.1 i j = σ.1 i j ∧ σ'.2.1 i j = σ.2.1 i j)
    (kk : ao_W Γ μ R Q mc ms (pc + 3) lo st σ') : ao_W Γ μ R Q mc ms pc lo (v :: .ref (Γ.2.2.2 + i) :: st) σ := by
  intro p e s m args below meth c H locs cells slots ls hX hR hS hc hs hl
  obtain ⟨cell, q1, q2, q3, q4⟩ := (hR.2.1 i).2 ci q hq hk
  have hX' := hX
  obtain ⟨hx, hb, -, -, -, hname, hown, hts, -, hK⟩ := hX
  have hap := va_apart (own := μ.1.cls) (D := Γ.2.1) hts (ao_ck hq).1 (ao_ty ci) (ao_ck hq).2.1 (ao_ck hq).2.2 hK.1 hq
  obtain ⟨hSl, hfc, kC, hkC, hkind⟩ := hK.1.1 ci _ hq
  obtain ⟨cf, kf, fi, f, hi, hsl⟩ := hSl k hkn
  have hlay := hts _ ((ao_ck hq).1 _ (u_in_lay hkn))
  unfold u_lay at hlay
  have hst := (u_facts hfc hkC (u_lays hts (ao_ck hq).1 hkn) hi).1
  have fin : ∀ H' : Heap, H'[Γ.2.2.2 + i]? = some (cell.setSlot f.slot v) → H'.size = H.size → (∀ z, z ≠ Γ.2.2.2 + i → H'[z]? = H[z]?) → W p Γ.1 e R s m args below meth c H' (locs ++ [⟨Γ.2.2.2 + i, f.slot⟩]) cells slots (Q below args s) (F0 m (pc + 3) ls st) := by
    intro H' e1 e2 e3
    rw [hsl] at e1
    exact kk p e s m args below meth c H' _ cells slots ls hX' (ao_Rp_one hR hσ hM e2 e3 (ao_at_put (H := H) hq hk hkn hσ rfl q2 q3 q4 hap e1 hv ho)) (ao_S_put hS e2 e3) hc hs hl
  by_cases hf : (q.2.1 k).2.2.2 = true
  · rcases hfin with h0 | ⟨h1, h2⟩
    · rw [hf] at h0; cases h0
    · rw [if_pos hf] at hlay
      have hcf : m.cls = cf := by
        obtain ⟨_, _, c', _, _, _, -, -, hf', -, -, -, hown2, -⟩ := Cond.laysFinal_spec hlay
        have e1 : c' = cf := by have := hi.symm.trans hf'; simp at this; exact this.1.symm
        rw [h2] at hown2
        rw [← e1]; exact Option.some.inj (hown.symm.trans hown2)
      have h6 := u_fits hfc hkC hkind (Or.inr hlay) hi ((ao_ck hq).2.1 k hkn) hn hft
      exact W.putFinK hx hb hown (hts _ hw) hi hst hcf (hname.trans h1) (by rw [q2]; exact h6) q1 q3 (by rw [hsl]; exact k2_hasslot (q4 k hkn)) rfl rfl hd fin
  · rw [if_neg hf] at hlay
    have h6 := u_store hfc hkC hkind hlay hi ((ao_ck hq).2.1 k hkn) hn hft
    exact W.putK hx hb (f := f) ⟨hown, hts _ hw, ⟨_, _, _, hi⟩, hst⟩ (by rw [q2]; exact h6) q1 q3 (by rw [hsl]; exact k2_hasslot (q4 k hkn)) rfl rfl hd fin
theorem ao_putI (i ci k : Nat) {q : vw_C} {index : Nat} {x : Int32} (hd : decode μ.2.1 pc = .ok (.putfield index, 3)) (hq : vwCl[ci]? = some q) (hk : σ.2.2.1 i = 10 + ci) (hkn : k < q.2.2)
    (hw : Cond.fieldLink μ.1.cls index (q.2.1 k).1 (q.2.1 k).2.1 (q.2.1 k).2.2.1 ∈ ao_G) (hfin : (q.2.1 k).2.2.2 = false ∨ (μ.1.name = "<init>" ∧ (q.2.1 k).1 = μ.1.cls)) (ht : ao_ft ci k = 0) (hn : narrow (ao_ty ci k) (.int x) = .int x) (hft : fits (ao_ty ci k) (.int x) = true)
    (kk : ao_W Γ μ R Q mc ms (pc + 3) lo st (ao_sI σ i k x)) : ao_W Γ μ R Q mc ms pc lo (.int x :: .ref (Γ.2.2.2 + i) :: st) σ := by
  refine ao_put (σ' := ao_sI σ i k x) i ci k hd hq hk hkn hw hfin hn hft rfl (fun a ha => ⟨?_, rfl⟩) ?_ (fun j hj => ⟨?_, rfl⟩) kk
  · funext j
    simp [ao_sI, ha]
  · rw [ht]
    simp [ao_v, ao_sI]
  · simp [ao_sI, hj]
theorem ao_putR (i ci k : Nat) {q : vw_C} {index j : Nat} (hd : decode μ.2.1 pc = .ok (.putfield index, 3)) (hq : vwCl[ci]? = some q) (hk : σ.2.2.1 i = 10 + ci) (hkn : k < q.2.2)
    (hw : Cond.fieldLink μ.1.cls index (q.2.1 k).1 (q.2.1 k).2.1 (q.2.1 k).2.2.1 ∈ ao_G) (hfin : (q.2.1 k).2.2.2 = false ∨ (μ.1.name = "<init>" ∧ (q.2.1 k).1 = μ.1.cls)) (ht : ao_ft ci k = 2) (hn : narrow (ao_ty ci k) (.ref (Γ.2.2.2 + j)) = .ref (Γ.2.2.2 + j)) (hft : fits (ao_ty ci k) (.ref (Γ.2.2.2 + j)) = true)
    (kk : ao_W Γ μ R Q mc ms (pc + 3) lo st (ao_sR σ i k (some j))) : ao_W Γ μ R Q mc ms pc lo (.ref (Γ.2.2.2 + j) :: .ref (Γ.2.2.2 + i) :: st) σ := by
  refine ao_put (σ' := ao_sR σ i k (some j)) i ci k hd hq hk hkn hw hfin hn hft rfl (fun a ha => ⟨rfl, ?_⟩) ?_ (fun j' hj => ⟨rfl, ?_⟩) kk
  · funext j
    simp [ao_sR, ha]
  · rw [ht]
    simp [ao_v, ao_sR, va_rf]
  · simp [ao_sR, hj]
theorem ao_tyAt {s : State} (hK : ao_K Γ s) {k : Nat} (hk : k < 7) : ArrOfT s (Γ.2.2.1 k) (ao_et k) ∧ va_RA s (Γ.2.2.1 k) (ao_et k) :=
  hK.1.2 k (Γ.2.2.1 k, ao_et k) (by simp [ao_tys, hk])
theorem ao_iaload (i : Nat) {x : Int32} (hd : decode μ.2.1 pc = .ok (.iaload, 1)) (hk : σ.2.2.1 i = 0) (hin : vp_in x (σ.2.2.2.1 i))
    (kk : ao_W Γ μ R Q mc ms (pc + 1) lo (.int (σ.1 i x.toNatClampNeg) :: st) σ) : ao_W Γ μ R Q mc ms pc lo (.int x :: .ref (Γ.2.2.2 + i) :: st) σ := by
  refine ao_step (fun p e s m args below meth c H locs cells slots ls hX hR hl kk => ?_) kk
  have hlt : x.toNatClampNeg < σ.2.2.2.1 i := Nat.not_le.mp fun q => hin (Or.inr q)
  exact W.iald (v := .int (σ.1 i x.toNatClampNeg)) hX.1 hX.2.1 ((hR.2.1 i).1 0 (by omega) hk) ((ao_tyAt hX.2.2.2.2.2.2.2.2.2 (k := 0) (by omega)).1 _ _) (fun q => by cases q) (by rw [arrV_size]; exact hin) (by rw [arrV_read _ _ hlt]; rfl) rfl rfl hd kk
theorem ao_baload (i : Nat) {x : Int32} (hd : decode μ.2.1 pc = .ok (.baload, 1)) (hk : σ.2.2.1 i = 1) (hin : vp_in x (σ.2.2.2.1 i))
    (kk : ao_W Γ μ R Q mc ms (pc + 1) lo (.int (σ.1 i x.toNatClampNeg) :: st) σ) : ao_W Γ μ R Q mc ms pc lo (.int x :: .ref (Γ.2.2.2 + i) :: st) σ := by
  refine ao_step (fun p e s m args below meth c H locs cells slots ls hX hR hl kk => ?_) kk
  have hlt : x.toNatClampNeg < σ.2.2.2.1 i := Nat.not_le.mp fun q => hin (Or.inr q)
  exact W.bald (v := .int (σ.1 i x.toNatClampNeg)) hX.1 hX.2.1 ((hR.2.1 i).1 1 (by omega) hk) ((ao_tyAt hX.2.2.2.2.2.2.2.2.2 (k := 1) (by omega)).1 _ _) (fun q => by cases q) (by rw [arrV_size]; exact hin) (by rw [arrV_read _ _ hlt]; rfl) rfl rfl hd kk
theorem ao_zaload (i : Nat) {x : Int32} (hd : decode μ.2.1 pc = .ok (.baload, 1)) (hk : σ.2.2.1 i = 2) (hin : vp_in x (σ.2.2.2.1 i))
    (kk : ao_W Γ μ R Q mc ms (pc + 1) lo (.int (σ.1 i x.toNatClampNeg) :: st) σ) : ao_W Γ μ R Q mc ms pc lo (.int x :: .ref (Γ.2.2.2 + i) :: st) σ := by
  refine ao_step (fun p e s m args below meth c H locs cells slots ls hX hR hl kk => ?_) kk
  have hlt : x.toNatClampNeg < σ.2.2.2.1 i := Nat.not_le.mp fun q => hin (Or.inr q)
  exact W.zald (v := .int (σ.1 i x.toNatClampNeg)) hX.1 hX.2.1 ((hR.2.1 i).1 2 (by omega) hk) ((ao_tyAt hX.2.2.2.2.2.2.2.2.2 (k := 2) (by omega)).1 _ _) (fun q => by cases q) (by rw [arrV_size]; exact hin) (by rw [arrV_read _ _ hlt]; rfl) rfl rfl hd kk
theorem ao_aaload (i t j : Nat) {x : Int32} (hd : decode μ.2.1 pc = .ok (.aaload, 1)) (hk : σ.2.2.1 i = t) (ht : 4 ≤ t ∧ t < 7) (hin : vp_in x (σ.2.2.2.1 i)) (hf : σ.2.1 i x.toNatClampNeg = some j)
    (kk : ao_W Γ μ R Q mc ms (pc + 1) lo (.ref (Γ.2.2.2 + j) :: st) σ) : ao_W Γ μ R Q mc ms pc lo (.int x :: .ref (Γ.2.2.2 + i) :: st) σ := by
  refine ao_step (fun p e s m args below meth c H locs cells slots ls hX hR hl kk => ?_) kk
  have hlt : x.toNatClampNeg < σ.2.2.2.1 i := Nat.not_le.mp fun q => hin (Or.inr q)
  have he : ao_ec t = 2 ∧ (ao_et t).isReference = true := by
    rcases (show t = 4 ∨ t = 5 ∨ t = 6 by omega) with rfl | rfl | rfl <;> exact ⟨rfl, rfl⟩
  exact W.aald (v := .ref (Γ.2.2.2 + j)) hX.1 hX.2.1 ((hR.2.1 i).1 t (by omega) hk) ((ao_tyAt hX.2.2.2.2.2.2.2.2.2 (k := t) (by omega)).1 _ _) he.2 (fun q => by cases q) (by rw [arrV_size]; exact hin) (by rw [arrV_read _ _ hlt, he.1, hf]; rfl) rfl rfl hd kk
theorem ao_alen (i t : Nat) (hd : decode μ.2.1 pc = .ok (.arraylength, 1)) (hk : σ.2.2.1 i = t) (ht : t < 7)
    (kk : ao_W Γ μ R Q mc ms (pc + 1) lo (.int (nI (σ.2.2.2.1 i)) :: st) σ) : ao_W Γ μ R Q mc ms pc lo (.ref (Γ.2.2.2 + i) :: st) σ := by
  refine ao_step (fun p e s m args below meth c H locs cells slots ls hX hR hl kk => ?_) kk
  exact W.alen hX.1 hX.2.1 ((hR.2.1 i).1 t ht hk) ((ao_tyAt hX.2.2.2.2.2.2.2.2.2 (k := t) ht).1 _ _) (by rw [arrV_size]; rfl) rfl rfl hd kk
/-- what stands in an array behind a store -/
theorem ao_at_st {σ' : ao_S} {H' : Heap} {i t k : Nat} {v : Value} (ht : t < 7) (hk : σ.2.2.1 i = t) (hσ : σ'.2.2 = σ.2.2)
    (e1 : H'[Γ.2.2.2 + i]? = some ((arrV (Γ.2.2.1 t) (σ.2.2.2.1 i) (fun j => ao_v Γ.2.2.2 (ao_ec t) (σ.1 i j) (σ.2.1 i j))).setSlot k v)) (hv : ao_v Γ.2.2.2 (ao_ec t) (σ'.1 i k) (σ'.2.1 i k) = v) (ho : ∀ j, j ≠ k → σ'.1 i j = σ.1 i j ∧ σ'.2.1 i j = σ.2.1 i j) : ao_at Γ σ' i H' := by
  have hk' : σ'.2.2.1 i = t := by rw [hσ]; exact hk
  refine ⟨fun k' hk7 hκ => ?_, fun ci' q' hq' hκ => absurd (hk'.symm.trans hκ) (by omega)⟩
  have : k' = t := by omega
  subst this
  rw [e1, arrV_store, show σ'.2.2.2.1 i = σ.2.2.2.1 i by rw [hσ]]
  congr 2
  funext j
  by_cases e : j = k
  · subst e
    simp [updV, hv]
  · simp only [updV, if_neg e]
    rw [(ho j e).1, (ho j e).2]
theorem ao_iastore (i : Nat) {x y : Int32} (hd : decode μ.2.1 pc = .ok (.iastore, 1)) (hk : σ.2.2.1 i = 0) (hin : vp_in x (σ.2.2.2.1 i))
    (kk : ao_W Γ μ R Q mc ms (pc + 1) lo st (ao_sI σ i x.toNatClampNeg y)) : ao_W Γ μ R Q mc ms pc lo (.int y :: .int x :: .ref (Γ.2.2.2 + i) :: st) σ := by
  intro p e s m args below meth c H locs cells slots ls hX hR hS hc hs hl
  refine W.iast hX.1 hX.2.1 ((hR.2.1 i).1 0 (by omega) hk) ((ao_tyAt hX.2.2.2.2.2.2.2.2.2 (k := 0) (by omega)).1 _ _) (fun q => by cases q) (by rw [arrV_size]; exact hin) rfl rfl hd fun H1 e1 z oq => ?_
  refine kk p e s m args below meth c H1 _ cells slots ls hX (ao_Rp_one (σ' := ao_sI σ i x.toNatClampNeg y) hR rfl (fun a ha => ⟨?_, rfl⟩) z oq (ao_at_st (σ' := ao_sI σ i x.toNatClampNeg y) (t := 0) (by omega) hk rfl e1 ?_ (fun j hj => ⟨?_, rfl⟩))) (ao_S_put hS z oq) hc hs hl
  · funext j
    simp [ao_sI, ha]
  · show Value.int _ = _
    simp [ao_sI]
  · simp [ao_sI, hj]
theorem ao_bastore (i : Nat) {x y : Int32} (hd : decode μ.2.1 pc = .ok (.bastore, 1)) (hk : σ.2.2.1 i = 1) (hin : vp_in x (σ.2.2.2.1 i))
    (kk : ao_W Γ μ R Q mc ms (pc + 1) lo st (ao_sI σ i x.toNatClampNeg y.toInt8.toInt32)) : ao_W Γ μ R Q mc ms pc lo (.int y :: .int x :: .ref (Γ.2.2.2 + i) :: st) σ := by
  intro p e s m args below meth c H locs cells slots ls hX hR hS hc hs hl
  refine W.bast hX.1 hX.2.1 ((hR.2.1 i).1 1 (by omega) hk) ((ao_tyAt hX.2.2.2.2.2.2.2.2.2 (k := 1) (by omega)).1 _ _) (fun q => by cases q) (by rw [arrV_size]; exact hin) rfl rfl hd fun H1 e1 z oq => ?_
  refine kk p e s m args below meth c H1 _ cells slots ls hX (ao_Rp_one (σ' := ao_sI σ i x.toNatClampNeg y.toInt8.toInt32) hR rfl (fun a ha => ⟨?_, rfl⟩) z oq (ao_at_st (σ' := ao_sI σ i x.toNatClampNeg y.toInt8.toInt32) (t := 1) (by omega) hk rfl e1 ?_ (fun j hj => ⟨?_, rfl⟩))) (ao_S_put hS z oq) hc hs hl
  · funext j
    simp [ao_sI, ha]
  · show Value.int _ = Value.int _
    simp [ao_sI]
  · simp [ao_sI, hj]
theorem ao_zastore (i : Nat) {x y : Int32} (hd : decode μ.2.1 pc = .ok (.bastore, 1)) (hk : σ.2.2.1 i = 2) (hin : vp_in x (σ.2.2.2.1 i)) (hy : narrow .boolean (.int y) = .int y)
    (kk : ao_W Γ μ R Q mc ms (pc + 1) lo st (ao_sI σ i x.toNatClampNeg y)) : ao_W Γ μ R Q mc ms pc lo (.int y :: .int x :: .ref (Γ.2.2.2 + i) :: st) σ := by
  intro p e s m args below meth c H locs cells slots ls hX hR hS hc hs hl
  refine W.zast hX.1 hX.2.1 ((hR.2.1 i).1 2 (by omega) hk) ((ao_tyAt hX.2.2.2.2.2.2.2.2.2 (k := 2) (by omega)).1 _ _) (fun q => by cases q) (by rw [arrV_size]; exact hin) rfl rfl hd fun H1 e1 z oq => ?_
  rw [hy] at e1
  refine kk p e s m args below meth c H1 _ cells slots ls hX (ao_Rp_one (σ' := ao_sI σ i x.toNatClampNeg y) hR rfl (fun a ha => ⟨?_, rfl⟩) z oq (ao_at_st (σ' := ao_sI σ i x.toNatClampNeg y) (t := 2) (by omega) hk rfl e1 ?_ (fun j hj => ⟨?_, rfl⟩))) (ao_S_put hS z oq) hc hs hl
  · funext j
    simp [ao_sI, ha]
  · show Value.int _ = Value.int _
    simp [ao_sI]
  · simp [ao_sI, hj]
end AoH
section AoE
variable {Γ : ao_C} {μ : ao_Mi} {Φ : ao_Po} {d MC MS mc ms pc : Nat} {lo : List (Option Value)} {σ : ao_S}
theorem ao_QcI {s t : State} {H : Heap} {locs : List Loc} {a : Array Value} {r : Option Value} (hR : ao_Rp Γ σ H) (hS : va_S (ao_fr Γ) s.heap H locs) (hp : Φ (.inl r) σ) (ht : t.heap = H) : ao_Qc Γ Φ a s (.returned r) t :=
  ⟨r, σ, rfl, hp, by rw [ht]; exact hR, by rw [ht]; exact hS.1, fun q h1 h2 => by rw [ht]; exact hS.2.1 q h1 h2⟩
theorem ao_ireturn {x : Int32} {ty : FieldType} (hd : decode μ.2.1 pc = .ok (.ireturn, 1)) (hr : μ.2.2.2.1 = some ty) (hn : narrow ty (.int x) = .int x) (hp : Φ (.inl (some (.int x))) σ) : ao_W Γ μ (ao_rm d MC MS) (ao_Q Γ Φ MC MS) mc ms pc lo [.int x] σ := by
  intro p e s m args below meth c H locs cells slots ls hX hR hS hc hs hl
  refine vx_ret ?_
  refine W.widen (k := MC) (n := MS) (Nat.le_trans (Nat.le_add_right _ _) hc) (Nat.le_trans (Nat.le_add_right _ _) hs) ?_
  exact W.zret hX.1 hX.2.1 (hX.2.2.2.1.trans hr) hn (fun t ht _ => ao_QcI hR hS hp ht) hS.2.2 hd hX.2.2.2.2.1
theorem ao_return (hd : decode μ.2.1 pc = .ok (.return_, 1)) (hr : μ.2.2.2.1 = none) (hp : Φ (.inl none) σ) : ao_W Γ μ (ao_rm d MC MS) (ao_Q Γ Φ MC MS) mc ms pc lo [] σ := by
  intro p e s m args below meth c H locs cells slots ls hX hR hS hc hs hl
  refine vx_ret ?_
  refine W.widen (k := MC) (n := MS) (Nat.le_trans (Nat.le_add_right _ _) hc) (Nat.le_trans (Nat.le_add_right _ _) hs) ?_
  exact W.vret hX.1 hX.2.1 (hX.2.2.2.1.trans hr) (fun t ht _ => ao_QcI hR hS hp ht) hS.2.2 hd hX.2.2.2.2.1
theorem ao_areturn {a : Nat} {ty : FieldType} (hd : decode μ.2.1 pc = .ok (.areturn, 1)) (hr : μ.2.2.2.1 = some ty) (hty : (∃ n, ty = .object n) ∨ ∃ t, ty = .array t) (hp : Φ (.inl (some (.ref a))) σ) : ao_W Γ μ (ao_rm d MC MS) (ao_Q Γ Φ MC MS) mc ms pc lo [.ref a] σ := by
  intro p e s m args below meth c H locs cells slots ls hX hR hS hc hs hl
  refine vx_ret ?_
  refine W.widen (k := MC) (n := MS) (Nat.le_trans (Nat.le_add_right _ _) hc) (Nat.le_trans (Nat.le_add_right _ _) hs) ?_
  exact W.aret hX.1 hX.2.1 (hX.2.2.2.1.trans hr) hty (Or.inr ⟨_, rfl⟩) (fun t ht _ => ao_QcI hR hS hp ht) hS.2.2 hd hX.2.2.2.2.1
end AoE
