/-! ===== calls ===== -/
theorem ao_good {Ts : List Cond} {ws : List Cond} (h : ∀ w ∈ ws, w ∈ ao_G) (hT : ∀ w ∈ ao_G, w ∈ Ts) : GoodIn Ts ws := fun w hw => ⟨hT w (h w hw), good_of_word (ao_Gg (h w hw))⟩
theorem ao_wsIn {y : MethodName} {cc : ByteArray} {nL : Nat} {ret : Option FieldType} (h : Cond.code y cc nL ret ∈ ao_G) : ∀ w ∈ ao_ws (y, cc, nL, ret, []), w ∈ ao_G := fun w hw => (List.mem_cons.mp hw).elim (fun e => by rw [e]; exact h) id
/-- a call's words: it is linked, it is the method's, it takes n -/
def ao_cB (own : String) (index : Nat) (y : MethodName) (cc : ByteArray) (nL : Nat) (ret : Option FieldType) (n : Nat) : Prop :=
  Cond.methodLink own index y ∈ ao_G ∧ Cond.code y cc nL ret ∈ ao_G ∧ Cond.initialized y.cls ∈ ao_G ∧ y.cls ≠ "java/lang/invoke/MethodHandle" ∧ y.cls ≠ "java/lang/invoke/VarHandle" ∧ (parseMethodDescriptor y.desc).map (fun d => d.parameters.length) = some n
theorem ao_cB_of {R : Room} {s : State} {args : Array Value} {own : String} {index n d mc ms nL : Nat} {y : MethodName} {cc : ByteArray} {ret : Option FieldType} (h : ao_cB own index y cc nL ret n) (hts : ∀ w ∈ ao_G, w.before args s = true) (hR : d + 1 ≤ R.frames ∧ 8 + (nL + 11) + 64 * d ≤ R.locals) :
    CallB R s args own index y cc nL ret (ao_ws (y, cc, nL, ret, [])) (ao_rm d mc ms) mc ms n := by
  obtain ⟨h1, h2, h3, h4, h5, h6⟩ := h
  exact callB_of (Ts := ao_G) (ws' := ao_G) n hts (ao_good (ao_wsIn h2) (fun _ h => h)) rfl rfl rfl (hts _ h3) (hts _ h1) ⟨h4, h5, h6⟩ hR
section AoCa
variable {Γ : ao_C} {μ : ao_Mi} {R : Room} {Q : List Frame → Array Value → State → State → Prop} {mc ms pc : Nat} {lo : List (Option Value)} {st : List Value} {σ : ao_S}
/-- what comes behind a call, whichever way it ended -/
theorem ao_behind {p : Program} {e : Env} {s : State} {m : MethodId} {args : Array Value} {below : List Frame} {meth : Method} {c : Code} {H : Heap} {locs : List Loc} {cells slots : Nat} {ls : Array Slot} {rest st0 : List Value} {Φ : ao_Po} {a : Array Value} {mc' ms' : Nat}
    (hr : vx_Run p Γ.1 e R s m args below meth c H locs cells slots mc' ms' (F0 m pc ls st0) rest (ao_Qc Γ Φ a) (ao_XC Γ Φ) (ao_fr Γ))
    (hX : ao_X Γ μ p s m args meth c) (hS : va_S (ao_fr Γ) s.heap H locs) (hl : ao_lo ls μ.2.2.1 lo) (hc : cells + mc ≤ R.cells) (hs : slots + ms ≤ R.slots) (hmc : mc' ≤ mc) (hms : ms' ≤ ms)
    (k : ∀ r σ', Φ (.inl r) σ' → ao_W Γ μ R Q (mc - mc') (ms - ms') (pc + 3) lo (r.toList ++ rest) σ') (kx : ∀ E σ', Φ (.inr E) σ' → ao_T Γ μ R Q (mc - mc') (ms - ms') pc lo E σ') :
    W p Γ.1 e R s m args below meth c H locs cells slots (Q below args s) (F0 m pc ls st0) := by
  intro T hT X
  rcases hr T hT X with ⟨v, st₀, t, T', L, h0, X', hL, e1, e2, ⟨r, σ', hv, hp, hR', hF⟩, hgo⟩ | ⟨q, st₀, t, T', L, E, ce, h0, X', hL, e1, e2, ⟨σ', hp, hR', hF⟩, hce, hcv, hcl, hgo⟩
  · cases hv
    have hS' : va_S (ao_fr Γ) s.heap T'.heap (locs ++ L) := (vx_keep h0 e1 hS (A1 := ao_fr Γ) (free := ao_fr Γ) (fun q _ h => h) (fun q h => h) hL hF).2.2
    obtain ⟨t2, a2, b2⟩ := k v σ' hp p e s m args below meth c T'.heap (locs ++ L) (cells + mc') (slots + ms') ls hX (by rw [e1]; exact hR') hS' (by omega) (by omega) hl T' rfl X'
    exact ⟨t2, hgo t2 a2, b2⟩
  · have hS' : va_S (ao_fr Γ) s.heap T'.heap (locs ++ L) := (vx_keep h0 e1 hS (A1 := ao_fr Γ) (free := ao_fr Γ) (fun q _ h => h) (fun q h => h) hL hF).2.2
    obtain ⟨t2, a2, b2⟩ := kx E σ' hp p e s m args below meth c T'.heap (locs ++ L) (cells + mc') (slots + ms') ls rest q ce hX (by rw [e1]; exact hR') hS' (by omega) (by omega) hl (by rw [e1]; exact hce) hcv hcl T' rfl X'
    exact ⟨t2, hgo.trans a2, b2⟩
theorem ao_pre {s U : State} {H : Heap} {locs : List Loc} {as : List Value} (hK : ao_K Γ s) (hR : ao_Rp Γ σ H) (hS : va_S (ao_fr Γ) s.heap H locs) (hU : U.heap = H) (hW : s.WarmedH U.vm) : ao_Pc Γ σ as as.toArray U :=
  ⟨rfl, by rw [hU]; exact hR, ao_K_next hK hW (by rw [hU]; exact hS)⟩
/-- a call on thing i -/
theorem ao_callVX (i ci : Nat) {q : vw_C} {index n d mc' ms' nL : Nat} {y : MethodName} {cc : ByteArray} {ret : Option FieldType} (As : List Value) {rest : List Value} {Φ : ao_Po}
    (hA : ao_A Γ (y, cc, nL, ret, []) d mc' ms' (.ref (Γ.2.2.2 + i) :: As) σ Φ) (hd : decode μ.2.1 pc = .ok (.invokevirtual index, 3)) (hw : ao_cB μ.1.cls index y cc nL ret n) (hi : Cond.instanceMethod y ∈ ao_G) (hse : Cond.selects q.1 y y ∈ ao_G)
    (hq : vwCl[ci]? = some q) (hk : σ.2.2.1 i = 10 + ci) (hn : As.length = n) (hst : st = As.reverse ++ .ref (Γ.2.2.2 + i) :: rest) (hrs : (rest.map fun v => v.category).sum ≤ 8) (hRm : d + 1 ≤ R.frames ∧ 8 + (nL + 11) + 64 * d ≤ R.locals) (hmc : mc' ≤ mc) (hms : ms' ≤ ms)
    (k : ∀ r σ', Φ (.inl r) σ' → ao_W Γ μ R Q (mc - mc') (ms - ms') (pc + 3) lo (r.toList ++ rest) σ') (kx : ∀ E σ', Φ (.inr E) σ' → ao_T Γ μ R Q (mc - mc') (ms - ms') pc lo E σ') : ao_W Γ μ R Q mc ms pc lo st σ := by
  intro p e s m args below meth c H locs cells slots ls hX hR hS hc hs hl
  subst hst
  have hX' := hX
  obtain ⟨hx, hb, hml, -, -, -, hown, hts, -, hK⟩ := hX
  obtain ⟨cell, q1, q2, q3, q4⟩ := (hR.2.1 i).2 ci q hq hk
  have hfc := (hK.1.1 ci _ hq).2.1
  refine ao_behind (vx_runV (b := Γ.2.2.2 + i) (As := As) (rest := rest) (Ts := ao_G) (nL := μ.2.2.1) (g := F0 m pc ls (As.reverse ++ .ref (Γ.2.2.2 + i) :: rest)) ⟨hx, hb, hml, hown, hts⟩ hA ⟨ao_cB_of hw hts hRm, hts _ hi, hts _ hse⟩ ⟨ao_Pc_blind, ⟨cell, q1, by rw [q3]; rfl, by rw [q2]; exact hfc⟩, fun U hU hW => ao_pre hK hR hS hU hW⟩ rfl hn hl.1 rfl ?_ hd ⟨by omega, by omega⟩) hX' hS hl hc hs hmc hms k kx
  show 2 * 0 + _ ≤ 8
  simpa using hrs
theorem ao_callSX {index n d mc' ms' nL : Nat} {y : MethodName} {cc : ByteArray} {ret : Option FieldType} (As : List Value) {rest : List Value} {Φ : ao_Po}
    (hA : ao_A Γ (y, cc, nL, ret, []) d mc' ms' As σ Φ) (hd : decode μ.2.1 pc = .ok (.invokestatic index, 3)) (hw : ao_cB μ.1.cls index y cc nL ret n) (hi : Cond.static y ∈ ao_G)
    (hn : As.length = n) (hst : st = As.reverse ++ rest) (hrs : (rest.map fun v => v.category).sum ≤ 8) (hRm : d + 1 ≤ R.frames ∧ 8 + (nL + 11) + 64 * d ≤ R.locals) (hmc : mc' ≤ mc) (hms : ms' ≤ ms)
    (k : ∀ r σ', Φ (.inl r) σ' → ao_W Γ μ R Q (mc - mc') (ms - ms') (pc + 3) lo (r.toList ++ rest) σ') (kx : ∀ E σ', Φ (.inr E) σ' → ao_T Γ μ R Q (mc - mc') (ms - ms') pc lo E σ') : ao_W Γ μ R Q mc ms pc lo st σ := by
  intro p e s m args below meth c H locs cells slots ls hX hR hS hc hs hl
  subst hst
  have hX' := hX
  obtain ⟨hx, hb, hml, -, -, -, hown, hts, -, hK⟩ := hX
  refine ao_behind (vx_runS (As := As) (rest := rest) (Ts := ao_G) (nL := μ.2.2.1) (g := F0 m pc ls (As.reverse ++ rest)) ⟨hx, hb, hml, hown, hts⟩ hA ⟨ao_cB_of hw hts hRm, hts _ hi⟩ ⟨ao_Pc_blind, fun U hU hW => ao_pre hK hR hS hU hW⟩ rfl hn hl.1 rfl ?_ hd ⟨by omega, by omega⟩) hX' hS hl hc hs hmc hms k kx
  show 2 * 0 + _ ≤ 8
  simpa using hrs
/-- what never throws -/
def ao_nx (Φ : ao_Po) : Prop := ∀ E σ', ¬ Φ (.inr E) σ'
theorem ao_callV (i ci : Nat) {q : vw_C} {index n d mc' ms' nL : Nat} {y : MethodName} {cc : ByteArray} {ret : Option FieldType} (As : List Value) {rest : List Value} {Φ : ao_Po}
    (hA : ao_A Γ (y, cc, nL, ret, []) d mc' ms' (.ref (Γ.2.2.2 + i) :: As) σ Φ) (hx : ao_nx Φ) (hd : decode μ.2.1 pc = .ok (.invokevirtual index, 3)) (hw : ao_cB μ.1.cls index y cc nL ret n) (hi : Cond.instanceMethod y ∈ ao_G) (hse : Cond.selects q.1 y y ∈ ao_G)
    (hq : vwCl[ci]? = some q) (hk : σ.2.2.1 i = 10 + ci) (hn : As.length = n) (hst : st = As.reverse ++ .ref (Γ.2.2.2 + i) :: rest) (hrs : (rest.map fun v => v.category).sum ≤ 8) (hRm : d + 1 ≤ R.frames ∧ 8 + (nL + 11) + 64 * d ≤ R.locals) (hmc : mc' ≤ mc) (hms : ms' ≤ ms)
    (k : ∀ r σ', Φ (.inl r) σ' → ao_W Γ μ R Q (mc - mc') (ms - ms') (pc + 3) lo (r.toList ++ rest) σ') : ao_W Γ μ R Q mc ms pc lo st σ :=
  ao_callVX i ci As hA hd hw hi hse hq hk hn hst hrs hRm hmc hms k (fun E σ' h => absurd h (hx E σ'))
theorem ao_callS {index n d mc' ms' nL : Nat} {y : MethodName} {cc : ByteArray} {ret : Option FieldType} (As : List Value) {rest : List Value} {Φ : ao_Po}
    (hA : ao_A Γ (y, cc, nL, ret, []) d mc' ms' As σ Φ) (hx : ao_nx Φ) (hd : decode μ.2.1 pc = .ok (.invokestatic index, 3)) (hw : ao_cB μ.1.cls index y cc nL ret n) (hi : Cond.static y ∈ ao_G)
    (hn : As.length = n) (hst : st = As.reverse ++ rest) (hrs : (rest.map fun v => v.category).sum ≤ 8) (hRm : d + 1 ≤ R.frames ∧ 8 + (nL + 11) + 64 * d ≤ R.locals) (hmc : mc' ≤ mc) (hms : ms' ≤ ms)
    (k : ∀ r σ', Φ (.inl r) σ' → ao_W Γ μ R Q (mc - mc') (ms - ms') (pc + 3) lo (r.toList ++ rest) σ') : ao_W Γ μ R Q mc ms pc lo st σ :=
  ao_callSX As hA hd hw hi hn hst hrs hRm hmc hms k (fun E σ' h => absurd h (hx E σ'))
theorem ao_met {d mc' ms' : Nat} {as : List Value} {Φ : ao_Po} {μ' : ao_Mi} (hA : ao_A Γ μ' d mc' ms' as σ Φ) (hx : ao_nx Φ) : Met Γ.1 μ'.1 (ao_ws μ') (ao_rm d mc' ms') (ao_Pc Γ σ as) (ao_Qc Γ Φ) mc' ms' (ao_fr Γ) := by
  intro p e h1 h2 h3 s m args below hf ha hP hK
  obtain ⟨n, o, a1, a2, a3, a4⟩ := hA p e h1 h2 h3 s m args below hf ha hP hK
  rcases a4 with a4 | ⟨q, rfl, E, ce, L, ⟨σ', hp, -⟩, -⟩
  · exact ⟨n, o, a1, a2, a3, a4⟩
  · exact absurd hp (hx E σ')
/-- a constructor's call -/
theorem ao_callI (i : Nat) {index n d mc' ms' nL : Nat} {y : MethodName} {cc : ByteArray} (As : List Value) {rest : List Value} {Φ : ao_Po}
    (hA : ao_A Γ (y, cc, nL, none, []) d mc' ms' (.ref (Γ.2.2.2 + i) :: As) σ Φ) (hx : ao_nx Φ) (hd : decode μ.2.1 pc = .ok (.invokespecial index, 3)) (hw : ao_cB μ.1.cls index y cc nL none n) (hi : Cond.instanceMethod y ∈ ao_G) (hy : y.name = "<init>")
    (hn : As.length = n) (hst : st = As.reverse ++ .ref (Γ.2.2.2 + i) :: rest) (hrs : (rest.map fun v => v.category).sum ≤ 8) (hRm : d + 1 ≤ R.frames ∧ 8 + (nL + 11) + 64 * d ≤ R.locals) (hmc : mc' ≤ mc) (hms : ms' ≤ ms)
    (k : ∀ r σ', Φ (.inl r) σ' → ao_W Γ μ R Q (mc - mc') (ms - ms') (pc + 3) lo (r.toList ++ rest) σ') : ao_W Γ μ R Q mc ms pc lo st σ := by
  intro p e s m args below meth c H locs cells slots ls hX hR hS hc hs hl
  subst hst
  have hX' := hX
  obtain ⟨hx', hb, hml, -, -, -, hown, hts, -, hK⟩ := hX
  have hr := W.runI (b := Γ.2.2.2 + i) (As := As) (rest := rest) (Ts := ao_G) (nL := μ.2.2.1) (H := H) (p := p) (e := e) (R := R) (s := s) (m := m) (args := args) (below := below) (meth := meth) (c := c) (locs := locs) (cells := cells) (slots := slots) (cc := μ.2.1) (g := F0 m pc ls (As.reverse ++ .ref (Γ.2.2.2 + i) :: rest)) ⟨hx', hb, hml, hown, hts⟩ (ao_met hA hx) ⟨ao_cB_of hw hts hRm, hy, hts _ hi⟩ ⟨ao_Pc_blind, fun U hU hW => ao_pre hK hR hS hU hW⟩ rfl hn hl.1 rfl (show 2 * 0 + _ ≤ 8 by simpa using hrs) hd ⟨by omega, by omega⟩
  intro T hT X
  obtain ⟨v, st₀, t, T', L, h0, X', hL, e1, ⟨r, σ', hv, hp, hR', hF⟩, hgo⟩ := hr T hT X
  cases hv
  have hS' : va_S (ao_fr Γ) s.heap T'.heap (locs ++ L) := (vx_keep h0 e1 hS (A1 := ao_fr Γ) (free := ao_fr Γ) (fun q _ h => h) (fun q h => h) hL hF).2.2
  obtain ⟨t2, a2, b2⟩ := k v σ' hp p e s m args below meth c T'.heap (locs ++ L) (cells + mc') (slots + ms') ls hX' (by rw [e1]; exact hR') hS' (by omega) (by omega) hl T' rfl X'
  exact ⟨t2, hgo t2 a2, b2⟩
end AoCa
