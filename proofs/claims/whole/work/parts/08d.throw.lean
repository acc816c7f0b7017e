/-! ===== throwing: cx_throw0 is the kit's own law of 'throw new E("text")' (vx_throwS), with the heap's size told exactly ===== -/
theorem cx_throw0 {p : Program} {l : Launch} {e : Env} {R : Room} {s : State} {m : MethodId} {args : Array Value} {below : List Frame} {meth : Method} {c : Code} {H : Heap} {locs : List Loc} {cells slots : Nat} {free : Addr → Prop} {ls : Array Slot} {rest : List Value} {Qc : Array Value → State → Outcome → State → Prop} {XC : String → State → State → Prop} {cc : ByteArray} {pc : Nat} (hexec : p.tables.exec = Jvm.exec) (hb : c.code = cc) (hl : l.stackTraces = false) {own cls text : String} {names : List String} {ik is ic mc ms sa : Nat} {A : Nat → Prop}
    (hown : s.vm.findClass own = some m.cls) (hcls : Jvm.Bundle.fit cls = true) (hnames : ∀ n ∈ names, Jvm.Bundle.fit n = true)
    (hk : (Cond.classLink own ik cls).before args s = true) (hini : (Cond.initialized cls).before args s = true) (hstr : vk_R own is text sa s) (hat : ∀ w ∈ vx_atS own ic cls names, w.before args s = true)
    (hgood : ∀ w ∈ Cond.classLink own ik cls :: Cond.initialized cls :: vx_atS own ic cls names, vx_ot w = true)
    (hU : vx_Zq Jvm.Bundle.tN "UNASSIGNED_STACK" Jvm.Bundle.steD A s s.heap) (hN : vx_Zq Jvm.Bundle.tN "SUPPRESSED_SENTINEL" Jvm.Bundle.listD A s s.heap) (hS : va_S A s.heap H locs) (hsize : ls.size = c.maxLocals)
    (d0 : decode cc pc = .ok (.new ik, 3)) (d3 : decode cc (pc + 3) = .ok (.dup, 1)) (d4 : decode cc (pc + 4) = .ok (.ldc is, 2)) (d6 : decode cc (pc + 6) = .ok (.invokespecial ic, 3)) (d9 : decode cc (pc + 9) = .ok (.athrow, 1))
    (hout : ∀ x ∈ c.exceptionTable.toList, covers x (pc + 9) = false)
    (hRframes : names.length + 3 < R.frames) (hRlocals : (rest.map fun v => v.category).sum + (13 * (names.length + 1) + 43) ≤ R.locals) (hRcells : cells + 1 ≤ R.cells) (hRslots : slots + 6 ≤ R.slots) (hlocks : meth.locks = false)
    (hx : ∀ t : State, s.vm.Alike t.vm → t.heap.size = H.size + 1 → (∀ q : Nat, q < H.size → t.heap[q]? = H[q]?) → XC cls s t)
    (hf : ∀ z ∈ locs, free z.base) (hc : cells + 1 ≤ mc) (hs : slots + 6 ≤ ms) :
    W p l e R s m args below meth c H locs cells slots (vx_MQ below Qc XC args s mc ms free) (F0 m pc ls rest) := by
  intro T hT X
  have htr : e.platform.stackTraces = false := (show e.platform.stackTraces = l.stackTraces by rw [X.admits.platform]).trans hl
  have Y := vx_rebase X (R' := { frames := R.frames, locals := R.locals, cells := 1, slots := 6 }) (Nat.le_refl _) (Nat.le_refl _) hRcells hRslots
  obtain ⟨s', hA⟩ : ∃ z, z = (T.setVm s.vm).setFrames (.invoking m args :: below) := ⟨_, rfl⟩
  rw [← hA] at Y
  have hvm : s'.vm = s.vm := by rw [hA]; rfl
  have hhp : s'.heap = H := by rw [hA]; exact hT
  have hW0 : s.WarmedH s'.vm := by rw [hvm]; exact State.WarmedH.refl s
  have hat' : ∀ w ∈ vx_atS own ic cls names, w.before args s' = true := fun w hw => vx_ot_at hW0 hvm.symm (hgood w (List.mem_cons_of_mem _ (List.mem_cons_of_mem _ hw))) (hat w hw)
  have hk' : (Cond.classLink own ik cls).before args s' = true := vx_ot_at hW0 hvm.symm (hgood _ List.mem_cons_self) hk
  have hini' : (Cond.initialized cls).before args s' = true := vx_ot_at hW0 hvm.symm (hgood _ (List.mem_cons_of_mem _ List.mem_cons_self)) hini
  have hU' : vx_Zq Jvm.Bundle.tN "UNASSIGNED_STACK" Jvm.Bundle.steD A s' s'.heap := by rw [hhp]; exact vx_Zq.moved hW0.alike (hU.kept hS.2.1)
  have hN' : vx_Zq Jvm.Bundle.tN "SUPPRESSED_SENTINEL" Jvm.Bundle.listD A s' s'.heap := by rw [hhp]; exact vx_Zq.moved hW0.alike (hN.kept hS.2.1)
  have h : ∀ w ∈ Jvm.Bundle.ownAtoms own ic cls names, w.before args s' = true := vx_own hat' (vx_isRefq hU'.1) (vx_isRefq hN'.1) hU'.2.word hN'.2.word
  have hown' : s'.vm.findClass own = some m.cls := by rw [hvm]; exact hown
  have hins : (Cond.instantiable cls 6).before args s' = true := h _ (by simp [Jvm.Bundle.ownAtoms])
  obtain ⟨vm₁, cX, kX, hfX, hkX, -, -, X₁, st1⟩ := Y.newCold hexec (own := own) (C := cls) (index := ik) (n := 6) hown' hk' hins hini'
    (g := F0 m pc ls rest) rfl (by rw [hb]; exact d0) (Nat.le_refl _) (Nat.le_refl _)
  generalize hT1 : (T.setVm vm₁).pushCell { cls := cX, slots := kX.instanceTypes.map defaultValue, vm := .none } = T1 at X₁ st1
  have hcat : (Value.ref T.heap.size).category = 1 := rfl
  have hcellA : T1.heap[T.heap.size]? = some (freshCell cX kX) := by rw [← hT1]; exact State.heap_pushCell_size _ _
  have d3' : decode c.code (pc + 3) = .ok (.dup, 1) := by rw [hb]; exact d3
  have d4' : decode c.code (pc + 4) = .ok (.ldc is, 2) := by rw [hb]; exact d4
  have hstr' : vk_R own is text sa s' := vk_R.warm hW0 hstr
  obtain ⟨U, hsteps, hrun, hend, hW, hsame, ce, hce, hO⟩ := X₁.ctorThrowS hexec htr (own := own) (cls := cls) (names := names) (ic := ic) hown' hcls hnames h (fun x hx => nomatch hx) hfX hkX hcellA (by rw [hhp, hT]; exact Nat.le_refl _) (msg := .ref sa) rfl
    (g := { method := m, pc := pc + 6, locals := ls, stack := .ref sa :: .ref T.heap.size :: .ref T.heap.size :: rest, locked := none }) rfl hsize rfl rfl (rest := rest) rfl
    (by rw [hb]; exact d6) (by rw [hb]; exact d9) hout hRframes (by simp only [List.map_cons, List.sum_cons, hcat]; omega) hlocks
  obtain ⟨f1, f2⟩ := vx_frame hsame
  rw [hhp] at f1 f2
  have hsz : U.heap.size = H.size + 1 := by
    have g3 := hsame.2.2.1
    have g4 := (Array.getElem?_eq_some_iff.mp hce).1
    rw [hhp] at g3
    rw [hT] at g4
    have g5 : U.heap.size ≤ H.size + (0 + 1) := g3
    omega
  have hWs : s.WarmedH U.vm := State.WarmedH.trans hW0 hW
  have hcl : s.vm.findClass cls = some ce.cls := by
    have h9 := hO.cls
    rw [hvm] at h9
    exact h9
  have hall : s.sameButNew ({ U with vm := s.vm } : State) locs mc ms := by
    subst hA
    obtain ⟨e1, e2⟩ := hsame
    rw [State.setFrames_setFrames] at e1
    have h2 : (T.setVm s.vm).sameButNew ({ U with vm := s.vm } : State) [] (0 + 1) (0 + 6) := ⟨e1, e2⟩
    have h3 := X.same.trans h2
    rw [List.append_nil] at h3
    exact h3.mono hc hs
  refine ⟨U, ?_, .threw T.heap.size, hrun, hend, Or.inr ⟨T.heap.size, rfl, cls, ce, locs, hx U hWs.alike hsz (fun q hq => f2 q hq (fun z hz => nomatch hz)), hce, hO.vm, hcl, hWs, hall, hf⟩⟩
  refine st1 _ ?_
  show Steps p.tables e below (T1.setTop { method := m, pc := pc + 3, locals := ls, stack := .ref T.heap.size :: rest, locked := none }) _
  jvm_step X₁.here [X₁.here.top, hexec, d3', Value.category]
  exact X₁.ldcString hexec (own := own) (text := text) (index := is) (a := sa) hown' hstr'.1 hstr'.2
    (g := { method := m, pc := pc + 4, locals := ls, stack := .ref T.heap.size :: .ref T.heap.size :: rest, locked := none }) rfl d4' _ hsteps
def ao_th (ρ : ao_H) : ao_H := (ρ.1, ρ.2.1, ρ.2.2.1, ρ.2.2.2.1.map (· + 1), ρ.2.2.2.2.1 + 1, ρ.2.2.2.2.2 + 6)
theorem ao_le_th (ρ : ao_H) : ao_le ρ (ao_th ρ) := ⟨Nat.le_succ _, Nat.le_add_right _ _⟩
theorem ao_thM {ρ : ao_H} : 1 ≤ ao_dc ρ (ao_th ρ) ∧ 6 ≤ ao_ds ρ (ao_th ρ) := by
  have e1 : (ao_th ρ).2.2.2.2.1 = ρ.2.2.2.2.1 + 1 := rfl
  have e2 : (ao_th ρ).2.2.2.2.2 = ρ.2.2.2.2.2 + 6 := rfl
  unfold ao_dc ao_ds
  omega
def ao_ZI (y : (Int32 ⊕ String) × ao_S) : ao_Po := fun o s => (match y.1 with
  | .inl x => o = .inl (some (.int x))
  | .inr E => o = .inr E) ∧ s = y.2
def ao_ZV (y : (Int32 ⊕ String) × ao_S) : ao_Po := fun o s => (match y.1 with
  | .inl _ => o = .inl none
  | .inr E => o = .inr E) ∧ s = y.2
def ao_cs {α : Type} (v : Int32 ⊕ String) (f : Int32 → α) (g : String → α) : α := match v with
  | .inl x => f x
  | .inr E => g E
theorem ao_csL {α : Type} {v : Int32 ⊕ String} {f : Int32 → Option α} {g : String → Option α} {y : α} {x : Int32} (h : ao_cs v f g = some y) (e : v = .inl x) : f x = some y := by subst e; exact h
theorem ao_csR {α : Type} {v : Int32 ⊕ String} {f : Int32 → Option α} {g : String → Option α} {y : α} {E : String} (h : ao_cs v f g = some y) (e : v = .inr E) : g E = some y := by subst e; exact h
theorem ao_csM {α : Type} {C : Prop} {v : Int32 ⊕ String} {f : Int32 → Option α} {g : String → Option α} {y : α} (h : ao_cs v f g = some y) (h1 : ∀ x, f x = some y → C) (h2 : ∀ E, g E = some y → C) : C := by
  cases v with
  | inl x => exact h1 x h
  | inr E => exact h2 E h
def ao_isDC : Cond → Bool
  | .declares _ => true
  | .castable _ _ => true
  | _ => false
/-- the words of a throw -/
def ao_tW (own : String) (ik is ic : Nat) (cls text : String) (names : List String) : Prop :=
  Jvm.Bundle.fit cls = true ∧ (∀ n ∈ names, Jvm.Bundle.fit n = true) ∧ Cond.classLink own ik cls ∈ ao_G ∧ Cond.initialized cls ∈ ao_G ∧ Cond.stringRef own is text ∈ lw_tbl ∧
  (∀ w ∈ (vx_atS own ic cls names).filter goodWord, w ∈ lw_tbl) ∧ (∀ w ∈ (vx_atS own ic cls names).filter (fun w => !goodWord w), w ∈ lw_tbl ∧ ao_isDC w = true) ∧ (∀ w ∈ Cond.classLink own ik cls :: Cond.initialized cls :: vx_atS own ic cls names, vx_ot w = true) ∧ names.length ≤ 4
theorem ao_dcB {Γ : ao_C} {s : State} {args : Array Value} {w : Cond} (h : ao_KB Γ s) (hw : w ∈ lw_tbl) (hd : ao_isDC w = true) : w.before args s = true := by
  cases w <;> first | exact va_Nw.use rfl (h.1 _ hw) | exact va_Nw.use rfl (h.2.1 _ _ hw) | (simp [ao_isDC] at hd)
theorem ao_Rp_th {Γ : ao_C} {M : ao_M} {ρ : ao_H} {H H' : Heap} (hR : ao_Rp Γ (M, ρ) H) (h1 : H'.size = H.size + 1) (h2 : ∀ q, q < H.size → H'[q]? = H[q]?) : ao_Rp Γ (M, ao_th ρ) H' := by
  refine ⟨by rw [h1]; exact Nat.le_succ_of_le hR.1, fun a => ⟨fun k hk hκ => ?_, fun ci q hq hκ => ?_⟩, fun k hk => ?_⟩
  · have h3 := (hR.2.1 a).1 k hk hκ
    have hlt : Γ.2.2.2 + a < H.size := (Array.getElem?_eq_some_iff.mp h3).1
    rw [h2 _ hlt]
    exact h3
  · have h3 := (hR.2.1 a).2 ci q hq hκ
    have hlt : Γ.2.2.2 + a < H.size := by
      obtain ⟨cell, q1, -⟩ := h3
      exact (Array.getElem?_eq_some_iff.mp q1).1
    exact h3.kept (h2 _ hlt)
  · have hk' : ρ.2.2.2.1.map (· + 1) = some k := hk
    cases hz : ρ.2.2.2.1 with
    | none => rw [hz] at hk'; cases hk'
    | some j =>
      rw [hz] at hk'
      have e1 : j + 1 = k := Option.some.inj hk'
      have e2 : H.size = Γ.2.2.2 + j := hR.2.2 j hz
      omega
section AoX
variable {Γ : ao_C} {μ : ao_Mi} {Φ : ao_Po} {d MC MS mc ms pc : Nat} {lo : List (Option Value)} {st : List Value} {M : ao_M} {ρ : ao_H}
/-- throw new E("text"), in a method without a table -/
theorem cx_throwS {ik is ic : Nat} (cls text : String) (names : List String) (hw : ao_tW μ.1.cls ik is ic cls text names) (ht : μ.2.2.2.2 = [])
    (d0 : decode μ.2.1 pc = .ok (.new ik, 3)) (d3 : decode μ.2.1 (pc + 3) = .ok (.dup, 1)) (d4 : decode μ.2.1 (pc + 4) = .ok (.ldc is, 2)) (d6 : decode μ.2.1 (pc + 6) = .ok (.invokespecial ic, 3)) (d9 : decode μ.2.1 (pc + 9) = .ok (.athrow, 1))
    (hd : 8 ≤ d) (hrs : (st.map fun v => v.category).sum ≤ 8) (hm : 1 ≤ mc ∧ 6 ≤ ms) (hp : Φ (.inr cls) (M, ao_th ρ)) : ao_W Γ μ (ao_rm d MC MS) (ao_Q Γ Φ MC MS) mc ms pc lo st (M, ρ) := by
  intro p e s m args below meth c H locs cells slots ls hX hR hS hc hs hl
  obtain ⟨hx, hb, hml, -, hlocks, -, hown, hts, htab, hK⟩ := hX
  obtain ⟨w1, w2, w3, w4, w5, w6, w7, w8, w9⟩ := hw
  obtain ⟨sa, hstr⟩ := hK.2.2.2.2.1 _ _ _ w5
  have hc' : cells + mc ≤ MC := hc
  have hs' : slots + ms ≤ MS := hs
  refine cx_throw0 (A := ao_fr Γ) (names := names) (sa := sa) hx hb hK.2.1 hown w1 w2 (hts _ w3) (hts _ w4) hstr ?_ w8 hK.2.2.1 hK.2.2.2.1 hS (by rw [hml]; exact hl.1) d0 d3 d4 d6 d9 ?_ ?_ ?_ ?_ ?_ hlocks ?_ hS.2.2 (by omega) (by omega)
  · intro w hw
    by_cases hg : goodWord w = true
    · exact hts _ (ao_Gm (w6 w (List.mem_filter.mpr ⟨hw, hg⟩)) hg)
    · have := w7 w (List.mem_filter.mpr ⟨hw, by simpa using hg⟩)
      exact ao_dcB hK.2.2.2.2.2.2 this.1 this.2
  · intro x hx'
    rw [htab, ht] at hx'
    cases hx'
  · show names.length + 3 < d
    omega
  · show _ + _ ≤ 64 * d
    omega
  · show cells + 1 ≤ MC
    omega
  · show slots + 6 ≤ MS
    omega
  · intro t _ h1 h2
    exact ⟨(M, ao_th ρ), hp, ao_Rp_th hR h1 h2, by rw [h1]; exact Nat.le_succ_of_le hS.1, fun q g1 g2 => by rw [h2 q (Nat.lt_of_lt_of_le g1 hS.1)]; exact hS.2.1 q g1 g2⟩
theorem ao_XCi {s t : State} {H : Heap} {locs : List Loc} {σ : ao_S} {E : String} (hR : ao_Rp Γ σ H) (hS : va_S (ao_fr Γ) s.heap H locs) (hp : Φ (.inr E) σ) (ht : t.heap = H) : ao_XC Γ Φ E s t :=
  ⟨σ, hp, by rw [ht]; exact hR, by rw [ht]; exact hS.1, fun q h1 h2 => by rw [ht]; exact hS.2.1 q h1 h2⟩
/-- it goes on to the caller: a method without a table -/
theorem cx_out {E : String} {σ : ao_S} (ht : μ.2.2.2.2 = []) (hp : Φ (.inr E) σ) : ao_T Γ μ (ao_rm d MC MS) (ao_Q Γ Φ MC MS) mc ms pc lo E σ := by
  intro p e s m args below meth c H locs cells slots ls rest q ce hX hR hS hc hs hl hce hcv hcl
  obtain ⟨hx, hb, hml, -, hlocks, -, hown, hts, htab, hK⟩ := hX
  have hc' : cells + mc ≤ MC := hc
  have hs' : slots + ms ≤ MS := hs
  exact vx_out (fun x hx' => by rw [htab, ht] at hx'; cases hx') hlocks hce hcv hcl (fun t h1 _ => ao_XCi hR hS hp h1) hS.2.2 (by omega) (by omega)
/-- athrow of thing j, of class ci -/
theorem cx_athrow (j ci : Nat) {q : vw_C} (hd : decode μ.2.1 pc = .ok (.athrow, 1)) (hq : vwCl[ci]? = some q) (hk : ρ.2.1 j = 10 + ci) (ht : μ.2.2.2.2 = []) (hp : Φ (.inr q.1) (M, ρ)) : ao_W Γ μ (ao_rm d MC MS) (ao_Q Γ Φ MC MS) mc ms pc lo (.ref (Γ.2.2.2 + j) :: st) (M, ρ) := by
  intro p e s m args below meth c H locs cells slots ls hX hR hS hc hs hl
  have hX' := hX
  obtain ⟨hx, hb, hml, -, hlocks, -, hown, hts, htab, hK⟩ := hX
  obtain ⟨cell, q1, q2, q3, q4⟩ := (hR.2.1 j).2 ci q hq hk
  have hfc := (hK.1.1 ci _ hq).2.1
  intro T hT X
  have hw := cx_out (Γ := Γ) (μ := μ) (Φ := Φ) (d := d) (MC := MC) (MS := MS) (mc := mc) (ms := ms) (pc := pc) (lo := lo) ht hp p e s m args below meth c H locs cells slots ls st (Γ.2.2.2 + j) cell hX' hR hS hc hs hl q1 q3 (by rw [q2]; exact hfc) T hT X
  obtain ⟨t, a1, b1⟩ := hw
  refine ⟨t, ?_, b1⟩
  have hdg : decode c.code pc = .ok (.athrow, 1) := by rw [hb]; exact hd
  jvm_step X.here [hx, hdg, athrow.wp_sem]
  exact a1
end AoX
section AoXC
variable {Γ : ao_C} {μ : ao_Mi} {R : Room} {Q : List Frame → Array Value → State → State → Prop} {mc ms mc2 ms2 pc : Nat} {lo : List (Option Value)} {st : List Value} {M : ao_M} {ρ : ao_H}
theorem cx_callVv (i ci : Nat) {q : vw_C} {index n d mc' ms' nL : Nat} {y : MethodName} {cc : ByteArray} (As : List Value) {rest : List Value} {v : (Int32 ⊕ String) × ao_S}
    (hA : ao_A Γ (y, cc, nL, none, []) d mc' ms' (.ref (Γ.2.2.2 + i) :: As) (M, ρ) (ao_ZV v)) (hd : decode μ.2.1 pc = .ok (.invokevirtual index, 3)) (hw : ao_cB μ.1.cls index y cc nL none n) (hi : Cond.instanceMethod y ∈ ao_G) (hse : Cond.selects q.1 y y ∈ ao_G)
    (hq : vwCl[ci]? = some q) (hk : ρ.2.1 i = 10 + ci) (hn : As.length = n) (hst : st = As.reverse ++ .ref (Γ.2.2.2 + i) :: rest) (hrs : (rest.map fun v => v.category).sum ≤ 8) (hRm : d + 1 ≤ R.frames ∧ 8 + (nL + 11) + 64 * d ≤ R.locals) (hmc : mc' + mc2 ≤ mc) (hms : ms' + ms2 ≤ ms)
    (k : ∀ x, v.1 = .inl x → ao_W Γ μ R Q mc2 ms2 (pc + 3) lo rest (v.2.1, v.2.2)) (kx : ∀ E, v.1 = .inr E → ao_T Γ μ R Q (mc - mc') (ms - ms') pc lo E (v.2.1, v.2.2)) : ao_W Γ μ R Q mc ms pc lo st (M, ρ) := by
  obtain ⟨w, σ2⟩ := v
  refine ao_callVX (σ := (M, ρ)) i ci As hA hd hw hi hse hq hk hn hst hrs hRm (by omega) (by omega) (fun r σ' h => ?_) (fun E σ' h => ?_)
  · cases w with
    | inl x =>
      obtain ⟨h1, rfl⟩ := h
      cases h1
      exact ao_less (by omega) (by omega) (k x rfl)
    | inr E => exact nomatch h.1
  · cases w with
    | inl x => exact nomatch h.1
    | inr E' =>
      obtain ⟨h1, rfl⟩ := h
      cases h1
      exact kx E rfl
end AoXC
