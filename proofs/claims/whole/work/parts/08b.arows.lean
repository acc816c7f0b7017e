/-! ===== rows for methods that make things or store references ===== -/
def ao_r (ρ : ao_H) (i k : Nat) (j : Option Nat) : ao_H := (fun a c => if a = i ∧ c = k then j else ρ.1 a c, ρ.2)
def ao_zr (M : ao_M) (n : Nat) : ao_M := fun a k => if a = n then 0 else M a k
def ao_nw (ρ : ao_H) (n kd len sl : Nat) : ao_H := (fun a k => if a = n then none else ρ.1 a k, fun a => if a = n then kd else ρ.2.1 a, fun a => if a = n then len else ρ.2.2.1 a, some (n + 1), ρ.2.2.2.2.1 + 1, ρ.2.2.2.2.2 + sl)
def ao_le (ρ ρ' : ao_H) : Prop := ρ.2.2.2.2.1 ≤ ρ'.2.2.2.2.1 ∧ ρ.2.2.2.2.2 ≤ ρ'.2.2.2.2.2
def ao_dc (ρ ρ' : ao_H) : Nat := ρ'.2.2.2.2.1 - ρ.2.2.2.2.1
def ao_ds (ρ ρ' : ao_H) : Nat := ρ'.2.2.2.2.2 - ρ.2.2.2.2.2
theorem ao_le_rf (ρ : ao_H) : ao_le ρ ρ := ⟨Nat.le_refl _, Nat.le_refl _⟩
theorem ao_le_tr {a b c : ao_H} (h : ao_le a b) (k : ao_le b c) : ao_le a c := ⟨Nat.le_trans h.1 k.1, Nat.le_trans h.2 k.2⟩
theorem ao_leC {a b c : ao_H} (h : ao_le a b) (k : ao_le b c) : ao_dc a b + ao_dc b c ≤ ao_dc a c := by
  have := h.1; have := k.1; unfold ao_dc; omega
theorem ao_leS {a b c : ao_H} (h : ao_le a b) (k : ao_le b c) : ao_ds a b + ao_ds b c ≤ ao_ds a c := by
  have := h.2; have := k.2; unfold ao_ds; omega
theorem ao_le_nw (ρ : ao_H) (n kd len sl : Nat) : ao_le ρ (ao_nw ρ n kd len sl) := ⟨Nat.le_succ _, Nat.le_add_right _ _⟩
theorem ao_dc_nw {ρ c : ao_H} {n kd len sl : Nat} (h : ao_le (ao_nw ρ n kd len sl) c) : ao_dc (ao_nw ρ n kd len sl) c + 1 ≤ ao_dc ρ c ∧ ao_ds (ao_nw ρ n kd len sl) c + sl ≤ ao_ds ρ c := by
  obtain ⟨h1, h2⟩ := h
  have e1 : (ao_nw ρ n kd len sl).2.2.2.2.1 = ρ.2.2.2.2.1 + 1 := rfl
  have e2 : (ao_nw ρ n kd len sl).2.2.2.2.2 = ρ.2.2.2.2.2 + sl := rfl
  unfold ao_dc ao_ds
  rw [e1] at h1 ⊢
  rw [e2] at h2 ⊢
  omega
def ao_QI (y : Int32 × ao_S) : ao_Po := fun o s => o = .inl (some (.int y.1)) ∧ s = y.2
def ao_QV (y : ao_S) : ao_Po := fun o s => o = .inl none ∧ s = y
def ao_QR (Γ : ao_C) (y : Nat × ao_S) : ao_Po := fun o s => o = .inl (some (.ref (Γ.2.2.2 + y.1))) ∧ s = y.2
theorem ao_nyI {y : Int32 × ao_S} : ao_nx (ao_QI y) := fun _ _ h => nomatch h.1
theorem ao_nyV {y : ao_S} : ao_nx (ao_QV y) := fun _ _ h => nomatch h.1
theorem ao_nyR {Γ : ao_C} {y : Nat × ao_S} : ao_nx (ao_QR Γ y) := fun _ _ h => nomatch h.1
theorem ao_Rp_new {Γ : ao_C} {M : ao_M} {ρ : ao_H} {H H' : Heap} {n kd len sl : Nat} (hR : ao_Rp Γ (M, ρ) H) (hz : ρ.2.2.2.1 = some n) (h1 : H'.size = H.size + 1) (h2 : ∀ q, q < H.size → H'[q]? = H[q]?) (hat : ao_at Γ (ao_zr M n, ao_nw ρ n kd len sl) n H') : ao_Rp Γ (ao_zr M n, ao_nw ρ n kd len sl) H' := by
  have hs : H.size = Γ.2.2.2 + n := hR.2.2 n hz
  refine ⟨by rw [h1]; exact Nat.le_succ_of_le hR.1, fun a => ?_, fun k hk => ?_⟩
  · by_cases e : a = n
    · subst e
      exact hat
    · obtain ⟨g1, g2⟩ := hR.2.1 a
      refine ⟨fun k hk hκ => ?_, fun ci q hq hκ => ?_⟩
      · have hκ' : ρ.2.1 a = k := by simpa [ao_nw, e] using hκ
        have h3 := g1 k hk hκ'
        have hlt : Γ.2.2.2 + a < H.size := (Array.getElem?_eq_some_iff.mp h3).1
        rw [h2 _ hlt, h3]
        simp [ao_nw, ao_zr, e]
      · have hκ' : ρ.2.1 a = 10 + ci := by simpa [ao_nw, e] using hκ
        have h3 := g2 ci q hq hκ'
        have hlt : Γ.2.2.2 + a < H.size := by
          obtain ⟨cell, q1, -⟩ := h3
          exact (Array.getElem?_eq_some_iff.mp q1).1
        exact (h3.kept (h2 _ hlt)).to (fun k _ => by simp [ao_nw, ao_zr, e])
  · have : k = n + 1 := by
      have : some (n + 1) = some k := hk
      exact (Option.some.inj this).symm
    omega
theorem ao_S_new {Γ : ao_C} {H0 H H1 : Heap} {locs : List Loc} (h : va_S (ao_fr Γ) H0 H locs) (h1 : H1.size = H.size + 1) (h2 : ∀ q, q < H.size → H1[q]? = H[q]?) : va_S (ao_fr Γ) H0 H1 locs :=
  ⟨by rw [h1]; exact Nat.le_succ_of_le h.1, fun q g1 g2 => by rw [h2 q (Nat.lt_of_lt_of_le g1 h.1)]; exact h.2.1 q g1 g2, h.2.2⟩
section AoA
variable {Γ : ao_C} {μ : ao_Mi} {R : Room} {Q : List Frame → Array Value → State → State → Prop} {mc ms mc2 ms2 pc : Nat} {lo : List (Option Value)} {st : List Value} {M : ao_M} {ρ : ao_H}
theorem ba_putR (i ci k : Nat) {q : vw_C} {index j : Nat} (hd : decode μ.2.1 pc = .ok (.putfield index, 3)) (hq : vwCl[ci]? = some q) (hk : ρ.2.1 i = 10 + ci) (hkn : k < q.2.2)
    (hw : Cond.fieldLink μ.1.cls index (q.2.1 k).1 (q.2.1 k).2.1 (q.2.1 k).2.2.1 ∈ ao_G) (hfin : (q.2.1 k).2.2.2 = false ∨ (μ.1.name = "<init>" ∧ (q.2.1 k).1 = μ.1.cls)) (ht : ao_ft ci k = 2) (hn : narrow (ao_ty ci k) (.ref (Γ.2.2.2 + j)) = .ref (Γ.2.2.2 + j)) (hft : fits (ao_ty ci k) (.ref (Γ.2.2.2 + j)) = true)
    (kk : ao_W Γ μ R Q mc ms (pc + 3) lo st (M, ao_r ρ i k (some j))) : ao_W Γ μ R Q mc ms pc lo (.ref (Γ.2.2.2 + j) :: .ref (Γ.2.2.2 + i) :: st) (M, ρ) :=
  ao_putR (σ := (M, ρ)) i ci k hd hq hk hkn hw hfin ht hn hft kk
theorem ba_putIF (i ci k : Nat) {q : vw_C} {index : Nat} {x : Int32} (hd : decode μ.2.1 pc = .ok (.putfield index, 3)) (hq : vwCl[ci]? = some q) (hk : ρ.2.1 i = 10 + ci) (hkn : k < q.2.2)
    (hw : Cond.fieldLink μ.1.cls index (q.2.1 k).1 (q.2.1 k).2.1 (q.2.1 k).2.2.1 ∈ ao_G) (hfin : (q.2.1 k).2.2.2 = false ∨ (μ.1.name = "<init>" ∧ (q.2.1 k).1 = μ.1.cls)) (ht : ao_ft ci k = 0) (hn : narrow (ao_ty ci k) (.int x) = .int x) (hft : fits (ao_ty ci k) (.int x) = true)
    (kk : ∀ N : ao_M, N = ao_u M i k x → ao_W Γ μ R Q mc ms (pc + 3) lo st (N, ρ)) : ao_W Γ μ R Q mc ms pc lo (.int x :: .ref (Γ.2.2.2 + i) :: st) (M, ρ) :=
  ao_putI (σ := (M, ρ)) i ci k hd hq hk hkn hw hfin ht hn hft (kk _ rfl)
/-- new C: the next thing, all its places empty -/
theorem ba_new (n ci : Nat) {q : vw_C} {index : Nat} (hd : decode μ.2.1 pc = .ok (.new index, 3)) (hq : vwCl[ci]? = some q) (hz : ρ.2.2.2.1 = some n) (hw : Cond.classLink μ.1.cls index q.1 ∈ ao_G ∧ Cond.instantiable q.1 q.2.2 ∈ ao_G ∧ Cond.initialized q.1 ∈ ao_G)
    (hm : mc2 + 1 ≤ mc ∧ ms2 + q.2.2 ≤ ms) (kk : ao_W Γ μ R Q mc2 ms2 (pc + 3) lo (.ref (Γ.2.2.2 + n) :: st) (ao_zr M n, ao_nw ρ n (10 + ci) 0 q.2.2)) : ao_W Γ μ R Q mc ms pc lo st (M, ρ) := by
  intro p e s m args below meth c H locs cells slots ls hX hR hS hc hs hl
  have hX' := hX
  obtain ⟨hx, hb, -, -, -, -, hown, hts, -, hK⟩ := hX
  have hs0 : H.size = Γ.2.2.2 + n := hR.2.2 n hz
  have hKc := hK.1.1 ci _ hq
  refine W.newcK hx hb hown (hts _ hw.1) (hts _ hw.2.1) (hts _ hw.2.2) rfl hd (by omega) (by omega) hKc.2.1 hs0 (fun H' kC hkC h1 h2 h3 => ?_)
  have h2' : H'.size = H.size + 1 := by rw [h2, hs0]
  have h3' : ∀ z, z < H.size → H'[z]? = H[z]? := fun z hz' => h3 z (by omega)
  have hB := u_born (ao_ty ci) hts (ao_ck hq).1 hKc hkC h1 (ao_ck hq).2.1
  refine kk p e s m args below meth c H' locs (cells + 1) (slots + q.2.2) ls hX' (ao_Rp_new hR hz h2' h3' ⟨fun k hk hκ => ?_, fun ci' q' hq' hκ => ?_⟩) (ao_S_new hS h2' h3') (by omega) (by omega) hl
  · have : 10 + ci = k := by simpa [ao_nw] using hκ
    omega
  · have hci : ci' = ci := by
      have : 10 + ci = 10 + ci' := by simpa [ao_nw] using hκ
      omega
    subst hci
    have hqq : q' = q := Option.some.inj (hq'.symm.trans hq)
    subst hqq
    refine hB.to (fun k _ => ?_)
    simp only [ao_zr, ao_nw, if_true]
    show defaultValue (ao_ty ci' k) = ao_v _ (ao_fs (ao_ty ci' k)) _ _
    have hp : k < q'.2.2 := by assumption
    have hty : ao_ty ci' k = .int ∨ ao_ty ci' k = .boolean ∨ (∃ t, ao_ty ci' k = .array t) ∨ ∃ t, ao_ty ci' k = .object t := by
      match ci', hq', hp with
      | 0, h, hp => cases h; rcases (show k = 0 ∨ k = 1 ∨ k = 2 ∨ k = 3 ∨ k = 4 by simp at hp; omega) with rfl | rfl | rfl | rfl | rfl <;> simp [ao_ty, tyX0]
      | 1, h, hp => cases h; simp only [ao_ty, tyX1]; split <;> simp
      | 2, h, hp => cases h; simp only [ao_ty, tyX2]; split <;> simp
      | 3, h, hp => cases h; simp only [ao_ty, tyX3]; split <;> simp
      | 4, h, hp => cases h; simp only [ao_ty, tyX4]; split <;> simp
      | 5, h, hp => cases h; simp only [ao_ty, tyX5]; split <;> simp
      | 6, h, hp => cases h; simp only [ao_ty, tyX6]; split <;> simp
      | 7, h, hp => cases h; simp only [ao_ty, tyX7]; split <;> simp
      | 8, h, hp => cases h; simp only [ao_ty, tyX8]; split <;> simp
      | 9, h, hp => cases h; simp only [ao_ty, tyX9]; split <;> simp
      | 10, h, hp => cases h; simp only [ao_ty, tyX10]; split <;> simp
      | 11, h, hp => cases h; simp only [ao_ty, tyX11]; split <;> simp
      | 12, h, hp => cases h; simp only [ao_ty, tyX12]; split <;> simp
      | j + 13, h, hp => simp [vwCl] at h
    rcases hty with h | h | ⟨t, h⟩ | ⟨t, h⟩ <;> rw [h] <;> rfl
/-- new int[x], new byte[x], new boolean[x], new long[x] -/
theorem ba_newa (n t : Nat) {x : Int32} {atype : ArrayType} (hd : decode μ.2.1 pc = .ok (.newarray atype, 2)) (ht : newarray.typeOf atype = ao_et t) (ht4 : t < 4) (hz : ρ.2.2.2.1 = some n) (hw : Cond.arrayClass (ao_et t) ∈ ao_G) (hx0 : ¬ x < 0) (hbt : x.toNatClampNeg * 8 ≤ 536870912)
    (hm : mc2 + 1 ≤ mc ∧ ms2 + x.toNatClampNeg ≤ ms) (kk : ao_W Γ μ R Q mc2 ms2 (pc + 2) lo (.ref (Γ.2.2.2 + n) :: st) (ao_zr M n, ao_nw ρ n t x.toNatClampNeg x.toNatClampNeg)) : ao_W Γ μ R Q mc ms pc lo (.int x :: st) (M, ρ) := by
  intro p e s m args below meth c H locs cells slots ls hX hR hS hc hs hl
  have hX' := hX
  obtain ⟨hx, hb, -, -, -, -, hown, hts, -, hK⟩ := hX
  have hs0 : H.size = Γ.2.2.2 + n := hR.2.2 n hz
  have hby : x.toNatClampNeg * componentBytes (newarray.typeOf atype) ≤ 536870912 := by
    rw [ht]
    rcases (show t = 0 ∨ t = 1 ∨ t = 2 ∨ t = 3 by omega) with rfl | rfl | rfl | rfl <;> (simp only [ao_et, componentBytes]; omega)
  refine va_newaK hx hb (by rw [ht]; exact hts _ hw) (g := F0 m pc ls (.int x :: st)) rfl hd rfl hx0 rfl hby (by omega) (by omega) hs0 (fun H' cA h1 h2 h3 h4 h5 => ?_)
  have h2' : H'.size = H.size + 1 := by rw [h2, hs0]
  have h3' : ∀ z, z < H.size → H'[z]? = H[z]? := fun z hz' => h3 z (by omega)
  have hcA : cA = Γ.2.2.1 t := by
    have h6 := (ao_tyAt hK (k := t) (by omega)).2
    rw [ht] at h5
    rcases (show t = 0 ∨ t = 1 ∨ t = 2 ∨ t = 3 by omega) with rfl | rfl | rfl | rfl <;> exact Option.some.inj (h5.symm.trans h6)
  refine kk p e s m args below meth c H' locs (cells + 1) (slots + x.toNatClampNeg) ls hX' (ao_Rp_new hR hz h2' h3' ⟨fun k hk hκ => ?_, fun ci' q' hq' hκ => ?_⟩) (ao_S_new hS h2' h3') (by omega) (by omega) hl
  · have hk' : t = k := by simpa [ao_nw] using hκ
    subst hk'
    rw [h1, hcA]
    simp only [ao_zr, ao_nw, if_true]
    congr 2
    funext j
    rw [ht]
    rcases (show t = 0 ∨ t = 1 ∨ t = 2 ∨ t = 3 by omega) with rfl | rfl | rfl | rfl <;> rfl
  · have : t = 10 + ci' := by simpa [ao_nw] using hκ
    omega
theorem ba_callVi (i ci : Nat) {q : vw_C} {index n d mc' ms' nL : Nat} {y : MethodName} {cc : ByteArray} {ty : FieldType} (As : List Value) {rest : List Value} {v : Int32 × ao_S}
    (hA : ao_A Γ (y, cc, nL, some ty, []) d mc' ms' (.ref (Γ.2.2.2 + i) :: As) (M, ρ) (ao_QI v)) (hd : decode μ.2.1 pc = .ok (.invokevirtual index, 3)) (hw : ao_cB μ.1.cls index y cc nL (some ty) n) (hi : Cond.instanceMethod y ∈ ao_G) (hse : Cond.selects q.1 y y ∈ ao_G)
    (hq : vwCl[ci]? = some q) (hk : ρ.2.1 i = 10 + ci) (hn : As.length = n) (hst : st = As.reverse ++ .ref (Γ.2.2.2 + i) :: rest) (hrs : (rest.map fun v => v.category).sum ≤ 8) (hRm : d + 1 ≤ R.frames ∧ 8 + (nL + 11) + 64 * d ≤ R.locals) (hmc : mc' + mc2 ≤ mc) (hms : ms' + ms2 ≤ ms)
    (k : ao_W Γ μ R Q mc2 ms2 (pc + 3) lo (.int v.1 :: rest) (v.2.1, v.2.2)) : ao_W Γ μ R Q mc ms pc lo st (M, ρ) :=
  ao_callV (σ := (M, ρ)) i ci As hA ao_nyI hd hw hi hse hq hk hn hst hrs hRm (by omega) (by omega) (fun r σ' h => by
    obtain ⟨h1, rfl⟩ := h
    cases h1
    exact ao_less (by omega) (by omega) k)
theorem ba_callVv (i ci : Nat) {q : vw_C} {index n d mc' ms' nL : Nat} {y : MethodName} {cc : ByteArray} (As : List Value) {rest : List Value} {v : ao_S}
    (hA : ao_A Γ (y, cc, nL, none, []) d mc' ms' (.ref (Γ.2.2.2 + i) :: As) (M, ρ) (ao_QV v)) (hd : decode μ.2.1 pc = .ok (.invokevirtual index, 3)) (hw : ao_cB μ.1.cls index y cc nL none n) (hi : Cond.instanceMethod y ∈ ao_G) (hse : Cond.selects q.1 y y ∈ ao_G)
    (hq : vwCl[ci]? = some q) (hk : ρ.2.1 i = 10 + ci) (hn : As.length = n) (hst : st = As.reverse ++ .ref (Γ.2.2.2 + i) :: rest) (hrs : (rest.map fun v => v.category).sum ≤ 8) (hRm : d + 1 ≤ R.frames ∧ 8 + (nL + 11) + 64 * d ≤ R.locals) (hmc : mc' + mc2 ≤ mc) (hms : ms' + ms2 ≤ ms)
    (k : ao_W Γ μ R Q mc2 ms2 (pc + 3) lo rest (v.1, v.2)) : ao_W Γ μ R Q mc ms pc lo st (M, ρ) :=
  ao_callV (σ := (M, ρ)) i ci As hA ao_nyV hd hw hi hse hq hk hn hst hrs hRm (by omega) (by omega) (fun r σ' h => by
    obtain ⟨h1, rfl⟩ := h
    cases h1
    exact ao_less (by omega) (by omega) k)
theorem ba_callVr (i ci : Nat) {q : vw_C} {index n d mc' ms' nL : Nat} {y : MethodName} {cc : ByteArray} {ty : FieldType} (As : List Value) {rest : List Value} {v : Nat × ao_S}
    (hA : ao_A Γ (y, cc, nL, some ty, []) d mc' ms' (.ref (Γ.2.2.2 + i) :: As) (M, ρ) (ao_QR Γ v)) (hd : decode μ.2.1 pc = .ok (.invokevirtual index, 3)) (hw : ao_cB μ.1.cls index y cc nL (some ty) n) (hi : Cond.instanceMethod y ∈ ao_G) (hse : Cond.selects q.1 y y ∈ ao_G)
    (hq : vwCl[ci]? = some q) (hk : ρ.2.1 i = 10 + ci) (hn : As.length = n) (hst : st = As.reverse ++ .ref (Γ.2.2.2 + i) :: rest) (hrs : (rest.map fun v => v.category).sum ≤ 8) (hRm : d + 1 ≤ R.frames ∧ 8 + (nL + 11) + 64 * d ≤ R.locals) (hmc : mc' + mc2 ≤ mc) (hms : ms' + ms2 ≤ ms)
    (k : ao_W Γ μ R Q mc2 ms2 (pc + 3) lo (.ref (Γ.2.2.2 + v.1) :: rest) (v.2.1, v.2.2)) : ao_W Γ μ R Q mc ms pc lo st (M, ρ) :=
  ao_callV (σ := (M, ρ)) i ci As hA ao_nyR hd hw hi hse hq hk hn hst hrs hRm (by omega) (by omega) (fun r σ' h => by
    obtain ⟨h1, rfl⟩ := h
    cases h1
    exact ao_less (by omega) (by omega) k)
theorem ba_callSi {index n d mc' ms' nL : Nat} {y : MethodName} {cc : ByteArray} {ty : FieldType} (As : List Value) {rest : List Value} {v : Int32 × ao_S}
    (hA : ao_A Γ (y, cc, nL, some ty, []) d mc' ms' As (M, ρ) (ao_QI v)) (hd : decode μ.2.1 pc = .ok (.invokestatic index, 3)) (hw : ao_cB μ.1.cls index y cc nL (some ty) n) (hi : Cond.static y ∈ ao_G)
    (hn : As.length = n) (hst : st = As.reverse ++ rest) (hrs : (rest.map fun v => v.category).sum ≤ 8) (hRm : d + 1 ≤ R.frames ∧ 8 + (nL + 11) + 64 * d ≤ R.locals) (hmc : mc' + mc2 ≤ mc) (hms : ms' + ms2 ≤ ms)
    (k : ao_W Γ μ R Q mc2 ms2 (pc + 3) lo (.int v.1 :: rest) (v.2.1, v.2.2)) : ao_W Γ μ R Q mc ms pc lo st (M, ρ) :=
  ao_callS (σ := (M, ρ)) As hA ao_nyI hd hw hi hn hst hrs hRm (by omega) (by omega) (fun r σ' h => by
    obtain ⟨h1, rfl⟩ := h
    cases h1
    exact ao_less (by omega) (by omega) k)
theorem ba_callSr {index n d mc' ms' nL : Nat} {y : MethodName} {cc : ByteArray} {ty : FieldType} (As : List Value) {rest : List Value} {v : Nat × ao_S}
    (hA : ao_A Γ (y, cc, nL, some ty, []) d mc' ms' As (M, ρ) (ao_QR Γ v)) (hd : decode μ.2.1 pc = .ok (.invokestatic index, 3)) (hw : ao_cB μ.1.cls index y cc nL (some ty) n) (hi : Cond.static y ∈ ao_G)
    (hn : As.length = n) (hst : st = As.reverse ++ rest) (hrs : (rest.map fun v => v.category).sum ≤ 8) (hRm : d + 1 ≤ R.frames ∧ 8 + (nL + 11) + 64 * d ≤ R.locals) (hmc : mc' + mc2 ≤ mc) (hms : ms' + ms2 ≤ ms)
    (k : ao_W Γ μ R Q mc2 ms2 (pc + 3) lo (.ref (Γ.2.2.2 + v.1) :: rest) (v.2.1, v.2.2)) : ao_W Γ μ R Q mc ms pc lo st (M, ρ) :=
  ao_callS (σ := (M, ρ)) As hA ao_nyR hd hw hi hn hst hrs hRm (by omega) (by omega) (fun r σ' h => by
    obtain ⟨h1, rfl⟩ := h
    cases h1
    exact ao_less (by omega) (by omega) k)
theorem ba_callSv {index n d mc' ms' nL : Nat} {y : MethodName} {cc : ByteArray} (As : List Value) {rest : List Value} {v : ao_S}
    (hA : ao_A Γ (y, cc, nL, none, []) d mc' ms' As (M, ρ) (ao_QV v)) (hd : decode μ.2.1 pc = .ok (.invokestatic index, 3)) (hw : ao_cB μ.1.cls index y cc nL none n) (hi : Cond.static y ∈ ao_G)
    (hn : As.length = n) (hst : st = As.reverse ++ rest) (hrs : (rest.map fun v => v.category).sum ≤ 8) (hRm : d + 1 ≤ R.frames ∧ 8 + (nL + 11) + 64 * d ≤ R.locals) (hmc : mc' + mc2 ≤ mc) (hms : ms' + ms2 ≤ ms)
    (k : ao_W Γ μ R Q mc2 ms2 (pc + 3) lo rest (v.1, v.2)) : ao_W Γ μ R Q mc ms pc lo st (M, ρ) :=
  ao_callS (σ := (M, ρ)) As hA ao_nyV hd hw hi hn hst hrs hRm (by omega) (by omega) (fun r σ' h => by
    obtain ⟨h1, rfl⟩ := h
    cases h1
    exact ao_less (by omega) (by omega) k)
end AoA
