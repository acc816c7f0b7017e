/-! ===== rows for constructors ===== -/
theorem ao_objW : Cond.instanceMethod Lib.objectInit ∈ ao_G ∧ Cond.code Lib.objectInit ⟨#[0xb1]⟩ 1 none ∈ ao_G := ⟨ao_Gm (by decide +kernel) rfl, ao_Gm (by decide +kernel) rfl⟩
section AoMk
variable {Γ : ao_C} {μ : ao_Mi} {R : Room} {Q : List Frame → Array Value → State → State → Prop} {mc ms mc2 ms2 pc : Nat} {lo : List (Option Value)} {st : List Value} {σ : ao_S} {M : ao_M} {ρ : ao_H}
theorem bi_obj {a index : Nat} (hd : decode μ.2.1 pc = .ok (.invokespecial index, 3)) (hw : Cond.methodLink μ.1.cls index Lib.objectInit ∈ ao_G) (hrs : (st.map fun v => v.category).sum ≤ 8) (hRm : 1 ≤ R.frames ∧ 64 ≤ R.locals) (k : ao_W Γ μ R Q mc ms (pc + 3) lo st σ) : ao_W Γ μ R Q mc ms pc lo (.ref a :: st) σ :=
  ao_step (fun p e s m args below meth c H locs cells slots ls hX hR hl kk => W.objInit hX.1 hX.2.1 hX.2.2.2.2.2.2.1 (hX.2.2.2.2.2.2.2.1 _ hw) (hX.2.2.2.2.2.2.2.1 _ ao_objW.1) (hX.2.2.2.2.2.2.2.1 _ ao_objW.2) (g := F0 m pc ls (.ref a :: st)) rfl (hl.1.trans hX.2.2.1.symm) rfl hd hRm.1 (by show 2 * 0 + _ + 12 ≤ _; omega) kk) k
theorem bi_callI (i : Nat) {index n d mc' ms' nL : Nat} {y : MethodName} {cc : ByteArray} (As : List Value) {rest : List Value} {v : ao_S}
    (hA : ao_A Γ (y, cc, nL, none, []) d mc' ms' (.ref (Γ.2.2.2 + i) :: As) (M, ρ) (ao_QV v)) (hd : decode μ.2.1 pc = .ok (.invokespecial index, 3)) (hw : ao_cB μ.1.cls index y cc nL none n) (hi : Cond.instanceMethod y ∈ ao_G) (hy : y.name = "<init>")
    (hn : As.length = n) (hst : st = As.reverse ++ .ref (Γ.2.2.2 + i) :: rest) (hrs : (rest.map fun v => v.category).sum ≤ 8) (hRm : d + 1 ≤ R.frames ∧ 8 + (nL + 11) + 64 * d ≤ R.locals) (hmc : mc' + mc2 ≤ mc) (hms : ms' + ms2 ≤ ms)
    (k : ao_W Γ μ R Q mc2 ms2 (pc + 3) lo rest (v.1, v.2)) : ao_W Γ μ R Q mc ms pc lo st (M, ρ) :=
  ao_callI (σ := (M, ρ)) i As hA ao_nyV hd hw hi hy hn hst hrs hRm (by omega) (by omega) (fun r σ' h => by
    obtain ⟨h1, rfl⟩ := h
    cases h1
    exact ao_less (by omega) (by omega) k)
/-- new Runner[x], new Level[x] -/
theorem bi_anew (n t : Nat) {C : String} {index : Nat} {x : Int32} (hd : decode μ.2.1 pc = .ok (.anewarray index, 3)) (ht : t < 7 ∧ ao_et t = .object C) (hz : ρ.2.2.2.1 = some n) (hw : Cond.classLink μ.1.cls index C ∈ ao_G ∧ (C = RX7 ∨ C = RX3)) (hx0 : ¬ x < 0) (hbt : x.toNatClampNeg * 8 ≤ 536870912)
    (hm : mc2 + 1 ≤ mc ∧ ms2 + x.toNatClampNeg ≤ ms) (kk : ao_W Γ μ R Q mc2 ms2 (pc + 3) lo (.ref (Γ.2.2.2 + n) :: st) (ao_zr M n, ao_nw ρ n t x.toNatClampNeg x.toNatClampNeg)) : ao_W Γ μ R Q mc ms pc lo (.int x :: st) (M, ρ) := by
  intro p e s m args below meth c H locs cells slots ls hX hR hS hc hs hl
  have hX' := hX
  obtain ⟨hx, hb, -, -, -, -, hown, hts, -, hK⟩ := hX
  have hs0 : H.size = Γ.2.2.2 + n := hR.2.2 n hz
  have hov : va_AO C s := by
    rcases hw.2 with h | h
    · rw [h]; exact hK.2.2.2.2.2.2.2.2.2.2.1.1
    · rw [h]; exact hK.2.2.2.2.2.2.2.2.2.2.1.2.1
  refine W.anew hx hb hown (hts _ hw.1) hov.use (g := F0 m pc ls (.int x :: st)) rfl hd rfl hx0 (by omega) (by omega) (by omega) (fun cA kA comp h1 h2 h3 h4 => ?_)
  have hcA : cA = Γ.2.2.1 t := by
    have h6 := (ao_tyAt hK (k := t) ht.1).2
    rw [ht.2] at h6
    obtain ⟨_, _, -, -, -, h7⟩ := h6
    exact Option.some.inj (h1.symm.trans h7)
  have h2' : (H.push { cls := cA, slots := Array.replicate x.toNatClampNeg .null, vm := .none }).size = H.size + 1 := by simp
  have h3' : ∀ z, z < H.size → (H.push { cls := cA, slots := Array.replicate x.toNatClampNeg .null, vm := .none })[z]? = H[z]? := fun z hz' => by rw [Array.getElem?_push, if_neg (Nat.ne_of_lt hz')]
  rw [show (.ref H.size : Value) = .ref (Γ.2.2.2 + n) by rw [hs0]]
  refine kk p e s m args below meth c _ locs (cells + 1) (slots + x.toNatClampNeg) ls hX' (ao_Rp_new hR hz h2' h3' ⟨fun k hk hκ => ?_, fun ci' q' hq' hκ => ?_⟩) (ao_S_new hS h2' h3') (by omega) (by omega) hl
  · have hk' : t = k := by simpa [ao_nw] using hκ
    subst hk'
    rw [← hs0, Array.getElem?_push, if_pos rfl, hcA]
    simp only [ao_zr, ao_nw, if_true]
    have e1 : ao_ec t = 2 := by show ao_fs (ao_et t) = 2; rw [ht.2]; rfl
    rw [e1, ← arrV_new]
    rfl
  · have : t = 10 + ci' := by simpa [ao_nw] using hκ
    omega
theorem bi_aast (a j t ce : Nat) {q : vw_C} {x : Int32} (hd : decode μ.2.1 pc = .ok (.aastore, 1)) (hk : ρ.2.1 a = t) (hq : vwCl[ce]? = some q) (ht : ao_et t = .object q.1) (hv : ρ.2.1 j = 10 + ce) (hin : ¬ (x < 0 ∨ ρ.2.2.1 a ≤ x.toNatClampNeg)) (ht7 : t < 7 := by decide)
    (kk : ao_W Γ μ R Q mc ms (pc + 1) lo st (M, ao_r ρ a x.toNatClampNeg (some j))) : ao_W Γ μ R Q mc ms pc lo (.ref (Γ.2.2.2 + j) :: .int x :: .ref (Γ.2.2.2 + a) :: st) (M, ρ) := by
  intro p e s m args below meth c H locs cells slots ls hX hR hS hc hs hl
  have hX' := hX
  obtain ⟨hx, hb, -, -, -, -, hown, hts, -, hK⟩ := hX
  have hA := (ao_tyAt hK (k := t) ht7).2
  rw [ht] at hA
  obtain ⟨kA, comp, r1, r2, r3, r4⟩ := hA
  obtain ⟨cell, q1, q2, q3, q4⟩ := (hR.2.1 j).2 ce q hq hv
  obtain ⟨hSl, hfc, kC, hkC, hkind⟩ := hK.1.1 ce _ hq
  have hcomp : comp = Γ.2.1.1 ce := Option.some.inj (r3.symm.trans hfc)
  have e2 : ao_ec t = 2 := by show ao_fs (ao_et t) = 2; rw [ht]; rfl
  refine W.aast hx hb ((hR.2.1 a).1 t ht7 hk) (fun z h => by cases h) (fun h => by cases h) (cv := cell) (k := kA) (kv := kC) (kcomp := kC) (comp := comp) (t := .object q.1) r1 r2 rfl (by rw [hcomp]; exact hkC) ⟨fun z => hin (Or.inl z), by rw [arrV_size]; exact Nat.not_le.mp (fun z => hin (Or.inr z))⟩ q1 (fun z h => by rw [q3] at h; cases h) (by rw [q2]; exact hkC) (by rw [q2, hcomp]; exact va_asg _ _) rfl rfl hd (fun H1 e1 z oq => ?_)
  refine kk p e s m args below meth c H1 _ cells slots ls hX' (ao_Rp_one (σ := (M, ρ)) (σ' := (M, ao_r ρ a x.toNatClampNeg (some j))) hR rfl (fun b hb => ⟨rfl, ?_⟩) z oq (ao_at_st (σ := (M, ρ)) (σ' := (M, ao_r ρ a x.toNatClampNeg (some j))) (t := t) ht7 hk rfl e1 ?_ (fun k hk => ⟨rfl, ?_⟩))) (ao_S_put hS z oq) hc hs hl
  · funext k
    simp [ao_r, hb]
  · rw [e2]
    simp [ao_v, ao_r, va_rf]
  · simp [ao_r, hk]
end AoMk
