/-! ===== new Broken(): its fields hold for a while what was there before us, so it is walked by hand ===== -/
def bk_V : Nat → Value := fun k => defaultValue (tyX11 k)
abbrev bk_OB (Γ : ao_C) (a : Nat) (H : Heap) (V : Nat → Value) : Prop := t_OB (Γ.2.2.2 + a) (Γ.2.1.1 11) 6 (Γ.2.1.2 11) H V
def bk_W (Γ : ao_C) (μ : ao_Mi) (R : Room) (Q : List Frame → Array Value → State → State → Prop) (mc ms pc : Nat) (lo : List (Option Value)) (st : List Value) (σ : ao_S) (a : Nat) (V : Nat → Value) : Prop :=
  ∀ (p : Program) (e : Env) (s : State) (m : MethodId) (args : Array Value) (below : List Frame) (meth : Method) (c : Code) (H : Heap) (locs : List Loc) (cells slots : Nat) (ls : Array Slot),
    ao_X Γ μ p s m args meth c → ao_Rp Γ σ H → bk_OB Γ a H V → va_S (ao_fr Γ) s.heap H locs → cells + mc ≤ R.cells → slots + ms ≤ R.slots → ao_lo ls μ.2.2.1 lo →
    W p Γ.1 e R s m args below meth c H locs cells slots (Q below args s) (F0 m pc ls st)
def bk_P (Γ : ao_C) (σ : ao_S) (a : Nat) (as : List Value) : Array Value → State → Prop := fun A U => A = as.toArray ∧ ao_Rp Γ σ U.heap ∧ ao_K Γ U ∧ bk_OB Γ a U.heap bk_V
def bk_Qc (Γ : ao_C) (σ : ao_S) (a : Nat) : Array Value → State → Outcome → State → Prop := fun _ st o t => o = .returned none ∧ ao_Rp Γ σ t.heap ∧ bk_OB Γ a t.heap bk_V ∧ va_F (ao_fr Γ) st t
def bk_XC : String → State → State → Prop := fun _ _ _ => False
def bk_Q (Γ : ao_C) (σ : ao_S) (a : Nat) : List Frame → Array Value → State → State → Prop := fun below args s => vx_MQ below (bk_Qc Γ σ a) bk_XC args s 0 0 (ao_fr Γ)
def bk_A (Γ : ao_C) (μ : ao_Mi) (d : Nat) (σ : ao_S) (a : Nat) (as : List Value) : Prop := vx_Met Γ.1 μ.1 (ao_ws μ) (ao_rm d 0 0) (bk_P Γ σ a as) (bk_Qc Γ σ a) bk_XC 0 0 (ao_fr Γ)
theorem bk_blind {Γ : ao_C} {σ : ao_S} {a : Nat} {as : List Value} : FrameBlind (bk_P Γ σ a as) := fun _ _ g mk h => ⟨h.1, h.2.1, ao_K_call g mk _ h.2.2.1, h.2.2.2⟩
theorem bk_met {Γ : ao_C} {σ : ao_S} {a d : Nat} {as : List Value} {μ' : ao_Mi} (hA : bk_A Γ μ' d σ a as) : Met Γ.1 μ'.1 (ao_ws μ') (ao_rm d 0 0) (bk_P Γ σ a as) (bk_Qc Γ σ a) 0 0 (ao_fr Γ) := by
  intro p e h1 h2 h3 s m args below hf ha hP hK
  obtain ⟨n, o, a1, a2, a3, a4⟩ := hA p e h1 h2 h3 s m args below hf ha hP hK
  rcases a4 with a4 | ⟨q, rfl, E, ce, L, hp, -⟩
  · exact ⟨n, o, a1, a2, a3, a4⟩
  · exact hp.elim
theorem bk_Rp {Γ : ao_C} {σ : ao_S} {a : Nat} {H H' : Heap} (hR : ao_Rp Γ σ H) (hκ : σ.2.2.1 a = 99) (h2 : H'.size = H.size) (h3 : ∀ z, z ≠ Γ.2.2.2 + a → H'[z]? = H[z]?) : ao_Rp Γ σ H' := by
  refine ⟨by rw [h2]; exact hR.1, fun i => ?_, fun n hn => by rw [h2]; exact hR.2.2 n hn⟩
  by_cases hi : i = a
  · subst hi
    refine ⟨fun k hk e => by omega, fun ci q hq e => ?_⟩
    have : ci = 89 := by omega
    subst this
    simp [vwCl] at hq
  · exact ⟨fun k hk e => by rw [h3 _ (by omega)]; exact (hR.2.1 i).1 k hk e, fun ci q hq e => ((hR.2.1 i).2 ci q hq e).kept (h3 _ (by omega))⟩
theorem bk_of {Γ : ao_C} {y : MethodName} {cc : ByteArray} {nL : Nat} {d a : Nat} {as : List Value} {σ : ao_S} (hy : plainName y.cls = true) (hc : ∀ v ∈ as, v.category = 1) (hn : as.length ≤ nL)
    (k : bk_W Γ (y, cc, nL, none, []) (ao_rm d 0 0) (bk_Q Γ σ a) 0 0 0 (as.map some ++ List.replicate (nL - as.length) none) [] σ a bk_V) : bk_A Γ (y, cc, nL, none, []) d σ a as := by
  have hsl : lg_sl as = as.map Slot.val := by
    clear k hn
    induction as with
    | nil => rfl
    | cons v r ih =>
      have h1 : v.category = 1 := hc v List.mem_cons_self
      have h2 := ih (fun w hw => hc w (List.mem_cons_of_mem _ hw))
      unfold lg_sl at h2 ⊢
      rw [List.flatMap_cons, h2, if_neg (by omega)]
      rfl
  have hlen : (lg_sl as).length = as.length := by rw [hsl, List.length_map]
  refine vx_ofW (ws := ao_ws (y, cc, nL, none, [])) (ws' := ao_G) (cc := cc) (maxL := nL) (ret := none) hy rfl ?_
  intro p e s m args below meth c s₁ B hml ht hP
  obtain ⟨rfl, hRp, hK, hB⟩ := hP
  have hts : ∀ w ∈ ao_ws (y, cc, nL, none, []), w.before as.toArray s = true := atoms_spec (ws := ao_ws (y, cc, nL, none, [])) B.pre
  have hl := lv_entry as (n := nL) (by rw [hlen]; exact hn)
  rw [lg_entry_eq]
  generalize hls : (lg_sl as ++ List.replicate (nL - (lg_sl as).length) Slot.unset).toArray = ls at hl ⊢
  refine k p e s m as.toArray below meth c s.heap [] 0 0 ls ⟨B.exec, B.bytes, hml, B.returns, B.notSynchronized, (name_of_methodNamed B.named B.method).1, findClass_of_methodNamed B.named, fun w hw => hts w (List.mem_cons_of_mem _ hw), ?_, hK⟩ hRp hB va_S.rf (by simp [ao_rm, headSpec]) (by simp [ao_rm, headSpec]) ⟨hl.1, hl.2.1, fun i v hi => ?_⟩
  · show c.exceptionTable.toList = []
    exact List.eq_nil_iff_forall_not_mem.mpr fun x hx => ht x hx
  · have hi' : i < as.length := by
      rcases Nat.lt_or_ge i as.length with h | h
      · exact h
      · rw [List.getElem?_append_right (by simpa using h)] at hi
        have := List.mem_of_getElem? hi
        simp at this
    rw [List.getElem?_append_left (by simpa using hi')] at hi
    simp only [List.getElem?_map, Option.map_eq_some_iff] at hi
    obtain ⟨w, hw, hwv⟩ := hi
    cases hwv
    refine ⟨?_, hc v (List.mem_of_getElem? hw)⟩
    rw [← hls, hsl]
    show (List.map Slot.val as ++ List.replicate (nL - (List.map Slot.val as).length) Slot.unset).toArray[i]? = some (Slot.val v)
    rw [List.getElem?_toArray, List.getElem?_append_left (by simpa using hi'), List.getElem?_map, hw]
    rfl
section Bk
variable {Γ : ao_C} {μ : ao_Mi} {R : Room} {Q : List Frame → Array Value → State → State → Prop} {mc ms pc pc' : Nat} {lo : List (Option Value)} {st st' : List Value} {σ : ao_S} {a : Nat} {V : Nat → Value}
theorem bk_step (h : ∀ (p : Program) (e : Env) (s : State) (m : MethodId) (args : Array Value) (below : List Frame) (meth : Method) (c : Code) (H : Heap) (locs : List Loc) (cells slots : Nat) (ls : Array Slot),
      ao_X Γ μ p s m args meth c → ao_lo ls μ.2.2.1 lo → W p Γ.1 e R s m args below meth c H locs cells slots (Q below args s) (F0 m pc' ls st') → W p Γ.1 e R s m args below meth c H locs cells slots (Q below args s) (F0 m pc ls st))
    (k : bk_W Γ μ R Q mc ms pc' lo st' σ a V) : bk_W Γ μ R Q mc ms pc lo st σ a V :=
  fun p e s m args below meth c H locs cells slots ls hX hR hB hS hc hs hl => h p e s m args below meth c H locs cells slots ls hX hl (k p e s m args below meth c H locs cells slots ls hX hR hB hS hc hs hl)
theorem bk_get {index : Nat} {n d : String} (hZ : ∀ s, ao_K Γ s → va_Zq "java/lang/Throwable" n d (ao_fr Γ) s s.heap) (hd : decode μ.2.1 pc = .ok (.getstatic index, 3)) (hw : Cond.fieldLink μ.1.cls index "java/lang/Throwable" n d ∈ ao_G) (k : ∀ v : Value, (v = .null ∨ ∃ a, v = .ref a) → bk_W Γ μ R Q mc ms (pc + 3) lo (v :: st) σ a V) : bk_W Γ μ R Q mc ms pc lo st σ a V :=
  fun p e s m args below meth c H locs cells slots ls hX hR hB hS hc hs hl => by
    rcases hZ s hX.2.2.2.2.2.2.2.2.2 with h | ⟨t, h⟩
    · exact va_gets hX.1 hX.2.1 h hS hX.2.2.2.2.2.2.1 (hX.2.2.2.2.2.2.2.1 _ hw) (fun _ h => h) hd (k _ (Or.inl rfl) p e s m args below meth c H locs cells slots ls hX hR hB hS hc hs hl)
    · exact va_gets hX.1 hX.2.1 h hS hX.2.2.2.2.2.2.1 (hX.2.2.2.2.2.2.2.1 _ hw) (fun _ h => h) hd (k _ (Or.inr ⟨t, rfl⟩) p e s m args below meth c H locs cells slots ls hX hR hB hS hc hs hl)
theorem bk_put (k : Nat) {index : Nat} {v : Value} (hd : decode μ.2.1 pc = .ok (.putfield index, 3)) (hk : k < 6) (hκ : σ.2.2.1 a = 99) (hw : Cond.fieldLink μ.1.cls index (TX11 k).1 (TX11 k).2.1 (TX11 k).2.2.1 ∈ ao_G) (hfin : (TX11 k).2.2.2 = false) (hn : narrow (tyX11 k) v = v) (hft : fits (tyX11 k) v = true)
    (kk : bk_W Γ μ R Q mc ms (pc + 3) lo st σ a (updV V k v)) : bk_W Γ μ R Q mc ms pc lo (v :: .ref (Γ.2.2.2 + a) :: st) σ a V := by
  intro p e s m args below meth c H locs cells slots ls hX hR hB hS hc hs hl
  obtain ⟨cell, q1, q2, q3, q4⟩ := hB
  have hX' := hX
  obtain ⟨hx, hb, -, -, -, hname, hown, hts, -, hK⟩ := hX
  have hq : vwCl[11]? = some (RX11, TX11, 6) := rfl
  have hap := va_apart (own := μ.1.cls) (D := Γ.2.1) hts (ao_ck hq).1 (ao_ty 11) (ao_ck hq).2.1 (ao_ck hq).2.2 hK.1 hq
  obtain ⟨hSl, hfc, kC, hkC, hkind⟩ := hK.1.1 11 _ hq
  obtain ⟨cf, kf, fi, f, hi, hsl⟩ := hSl k hk
  have hlay := hts _ ((ao_ck hq).1 _ (u_in_lay hk))
  unfold u_lay at hlay
  rw [if_neg (by rw [hfin]; decide)] at hlay
  have hst := (u_facts hfc hkC (u_lays hts (ao_ck hq).1 hk) hi).1
  have h6 := u_store hfc hkC hkind hlay hi ((ao_ck hq).2.1 k hk) hn hft
  refine W.putK hx hb (f := f) ⟨hown, hts _ hw, ⟨_, _, _, hi⟩, hst⟩ (by rw [q2]; exact h6) q1 q3 (by rw [hsl]; exact k2_hasslot (q4 k hk)) rfl rfl hd fun H' e1 e2 e3 => ?_
  rw [hsl] at e1 ⊢
  exact kk p e s m args below meth c H' _ cells slots ls hX' (bk_Rp hR hκ e2 e3) ⟨_, e1, q2, q3, t_set q4 hap hk v⟩ (ao_S_put hS e2 e3) hc hs hl
theorem bk_if0 (tgt : Nat) {off : Int} (hd : decode μ.2.1 pc = .ok (.ifCond .eq off, 3)) (ht : (pc : Int) + off = (tgt : Int)) (k : bk_W Γ μ R Q mc ms tgt lo st σ a V) : bk_W Γ μ R Q mc ms pc lo (.int 0 :: st) σ a V :=
  fun p e s m args below meth c H locs cells slots ls hX hR hB hS hc hs hl => lv_if_eq hX.1 hX.2.1 hd ht (fun _ => k p e s m args below meth c H locs cells slots ls hX hR hB hS hc hs hl) (fun h => absurd rfl h)
theorem bk_ifn (tgt : Nat) {off : Int} (hd : decode μ.2.1 pc = .ok (.ifCond .ne off, 3)) (ht : (pc : Int) + off = (tgt : Int)) (k : bk_W Γ μ R Q mc ms (pc + 3) lo st σ a V) : bk_W Γ μ R Q mc ms pc lo (.int 0 :: st) σ a V :=
  fun p e s m args below meth c H locs cells slots ls hX hR hB hS hc hs hl => lv_if_ne hX.1 hX.2.1 hd ht (fun h => absurd rfl h) (fun _ => k p e s m args below meth c H locs cells slots ls hX hR hB hS hc hs hl)
theorem bk_return {d : Nat} (hd : decode μ.2.1 pc = .ok (.return_, 1)) (hr : μ.2.2.2.1 = none) (hV : ∀ k, k < 6 → V k = bk_V k) : bk_W Γ μ (ao_rm d 0 0) (bk_Q Γ σ a) 0 0 pc lo [] σ a V := by
  intro p e s m args below meth c H locs cells slots ls hX hR hB hS hc hs hl
  refine vx_ret ?_
  refine W.widen (k := 0) (n := 0) (Nat.le_trans (Nat.le_add_right _ _) hc) (Nat.le_trans (Nat.le_add_right _ _) hs) ?_
  exact W.vret hX.1 hX.2.1 (hX.2.2.2.1.trans hr) (fun t ht _ => ⟨rfl, by rw [ht]; exact hR, by rw [ht]; exact t_OB.to hB hV, by rw [ht]; exact hS.1, fun q h1 h2 => by rw [ht]; exact hS.2.1 q h1 h2⟩) hS.2.2 hd hX.2.2.2.2.1
theorem bk_call {index n d' nL : Nat} {y : MethodName} {cc : ByteArray} (As : List Value) {rest : List Value} (hA : bk_A Γ (y, cc, nL, none, []) d' σ a (.ref (Γ.2.2.2 + a) :: As)) (hd : decode μ.2.1 pc = .ok (.invokespecial index, 3)) (hw : ao_cB μ.1.cls index y cc nL none n) (hi : Cond.instanceMethod y ∈ ao_G) (hy : y.name = "<init>")
    (hn : As.length = n) (hst : st = As.reverse ++ .ref (Γ.2.2.2 + a) :: rest) (hrs : (rest.map fun v => v.category).sum ≤ 8) (hRm : d' + 1 ≤ R.frames ∧ 8 + (nL + 11) + 64 * d' ≤ R.locals) (k : bk_W Γ μ R Q mc ms (pc + 3) lo rest σ a bk_V) : bk_W Γ μ R Q mc ms pc lo st σ a bk_V := by
  intro p e s m args below meth c H locs cells slots ls hX hR hB hS hc hs hl
  subst hst
  have hX' := hX
  obtain ⟨hx', hb, hml, -, -, -, hown, hts, -, hK⟩ := hX
  have hr := W.runI (b := Γ.2.2.2 + a) (As := As) (rest := rest) (Ts := ao_G) (nL := μ.2.2.1) (H := H) (p := p) (e := e) (R := R) (s := s) (m := m) (args := args) (below := below) (meth := meth) (c := c) (locs := locs) (cells := cells) (slots := slots) (cc := μ.2.1) (g := F0 m pc ls (As.reverse ++ .ref (Γ.2.2.2 + a) :: rest)) ⟨hx', hb, hml, hown, hts⟩ (bk_met hA) ⟨ao_cB_of hw hts hRm, hy, hts _ hi⟩ ⟨bk_blind, fun U hU hW => ⟨rfl, by rw [hU]; exact hR, ao_K_next hK hW (by rw [hU]; exact hS), by rw [hU]; exact hB⟩⟩ rfl hn hl.1 rfl (show 2 * 0 + _ ≤ 8 by simpa using hrs) hd ⟨by omega, by omega⟩
  intro T hT X
  obtain ⟨v, st₀, t, T', L, h0, X', hL, e1, ⟨hv, hR', hB', hF⟩, hgo⟩ := hr T hT X
  cases hv
  have hS' : va_S (ao_fr Γ) s.heap T'.heap (locs ++ L) := (vx_keep h0 e1 hS (A1 := ao_fr Γ) (free := ao_fr Γ) (fun q _ h => h) (fun q h => h) hL hF).2.2
  obtain ⟨t2, a2, b2⟩ := k p e s m args below meth c T'.heap (locs ++ L) (cells + 0) (slots + 0) ls hX' (by rw [e1]; exact hR') (by rw [e1]; exact hB') hS' (by omega) (by omega) hl T' rfl X'
  exact ⟨t2, hgo t2 a2, b2⟩
end Bk
def bk_yT : MethodName := ⟨"java/lang/Throwable", "<init>", "(Ljava/lang/String;Ljava/lang/Throwable;ZZ)V"⟩
def bk_yE : MethodName := ⟨"java/lang/Exception", "<init>", "(Ljava/lang/String;Ljava/lang/Throwable;ZZ)V"⟩
def bk_yR : MethodName := ⟨"java/lang/RuntimeException", "<init>", "(Ljava/lang/String;Ljava/lang/Throwable;ZZ)V"⟩
theorem bk_lT1 : Cond.methodLink "java/lang/Throwable" 1 Lib.objectInit ∈ ao_G := ao_Gm (ao_w3 (List.mem_of_getElem? (i := 62) rfl)) rfl
theorem bk_f7 : Cond.fieldLink "java/lang/Throwable" 7 "java/lang/Throwable" "cause" "Ljava/lang/Throwable;" ∈ ao_G := ao_Gm (ao_w3 (List.mem_of_getElem? (i := 95) rfl)) rfl
theorem bk_f17 : Cond.fieldLink "java/lang/Throwable" 17 "java/lang/Throwable" "stackTrace" "[Ljava/lang/StackTraceElement;" ∈ ao_G := ao_Gm (ao_w3 (List.mem_of_getElem? (i := 96) rfl)) rfl
theorem bk_f24 : Cond.fieldLink "java/lang/Throwable" 24 "java/lang/Throwable" "suppressedExceptions" "Ljava/util/List;" ∈ ao_G := ao_Gm (ao_w3 (List.mem_of_getElem? (i := 97) rfl)) rfl
theorem bk_f31 : Cond.fieldLink "java/lang/Throwable" 31 "java/lang/Throwable" "detailMessage" "Ljava/lang/String;" ∈ ao_G := ao_Gm (ao_w3 (List.mem_of_getElem? (i := 94) rfl)) rfl
theorem bk_f13 : Cond.fieldLink "java/lang/Throwable" 13 "java/lang/Throwable" "UNASSIGNED_STACK" "[Ljava/lang/StackTraceElement;" ∈ ao_G := ao_Gm (ao_w3 (List.mem_of_getElem? (i := 63) rfl)) rfl
theorem bk_f20 : Cond.fieldLink "java/lang/Throwable" 20 "java/lang/Throwable" "SUPPRESSED_SENTINEL" "Ljava/util/List;" ∈ ao_G := ao_Gm (ao_w3 (List.mem_of_getElem? (i := 65) rfl)) rfl
theorem bk_cE : ao_cB "java/lang/Exception" 16 bk_yT prog_27_method_5_code 5 none 4 := ⟨ao_Gm (ao_w6 (List.mem_of_getElem? (i := 139) rfl)) rfl, ao_Gm (ao_w6 (List.mem_of_getElem? (i := 141) rfl)) rfl, ao_Gm (ao_w1 (List.mem_of_getElem? (i := 14) rfl)) rfl, by decide, by decide, by decide +kernel⟩
theorem bk_iE : Cond.instanceMethod bk_yT ∈ ao_G := ao_Gm (ao_w6 (List.mem_of_getElem? (i := 140) rfl)) rfl
theorem bk_cR : ao_cB "java/lang/RuntimeException" 16 bk_yE prog_16_method_5_code 5 none 4 := ⟨ao_Gm (ao_w6 (List.mem_of_getElem? (i := 136) rfl)) rfl, ao_Gm (ao_w6 (List.mem_of_getElem? (i := 138) rfl)) rfl, ao_Gm (ao_w1 (List.mem_of_getElem? (i := 15) rfl)) rfl, by decide, by decide, by decide +kernel⟩
theorem bk_iR : Cond.instanceMethod bk_yE ∈ ao_G := ao_Gm (ao_w6 (List.mem_of_getElem? (i := 137) rfl)) rfl
theorem bk_cB : ao_cB RX11 1 bk_yR prog_22_method_5_code 5 none 4 := ⟨ao_Gm (ao_w6 (List.mem_of_getElem? (i := 133) rfl)) rfl, ao_Gm (ao_w6 (List.mem_of_getElem? (i := 135) rfl)) rfl, ao_Gm (ao_w1 (List.mem_of_getElem? (i := 16) rfl)) rfl, by decide, by decide, by decide +kernel⟩
theorem bk_iB : Cond.instanceMethod bk_yR ∈ ao_G := ao_Gm (ao_w6 (List.mem_of_getElem? (i := 134) rfl)) rfl
theorem bk_cM : Cond.code yX11_init cX11_init 1 none ∈ ao_G ∧ Cond.instanceMethod yX11_init ∈ ao_G ∧ Cond.initialized RX11 ∈ ao_G ∧ Cond.instantiable RX11 6 ∈ ao_G := ⟨ao_Gm (ao_w6 (List.mem_of_getElem? (i := 132) rfl)) rfl, ao_Gm (ao_w6 (List.mem_of_getElem? (i := 131) rfl)) rfl, ao_Gm (ao_w1 (List.mem_of_getElem? (i := 17) rfl)) rfl, ao_Gm (ao_w6 (List.mem_of_getElem? (i := 122) rfl)) rfl⟩
theorem bk_lM : Cond.classLink RX12 168 RX11 ∈ ao_G := ao_Gm (ao_w6 (List.mem_of_getElem? (i := 121) rfl)) rfl
theorem bk_nM : Cond.methodLinkNest RX12 170 yX11_init "AsOneHouseModel" ∈ lw_tbl := ao_w6 (List.mem_of_getElem? (i := 130) rfl)

theorem bk_b0 : decode cX11_init 0 = .ok (.aload_n 0, 1) := by decide +kernel
theorem bk_b1 : decode cX11_init 1 = .ok (.aconst_null, 1) := by decide +kernel
theorem bk_b2 : decode cX11_init 2 = .ok (.aconst_null, 1) := by decide +kernel
theorem bk_b3 : decode cX11_init 3 = .ok (.iconst 0, 1) := by decide +kernel
theorem bk_b4 : decode cX11_init 4 = .ok (.iconst 0, 1) := by decide +kernel
theorem bk_b5 : decode cX11_init 5 = .ok (.invokespecial 1, 3) := by decide +kernel
theorem bk_b8 : decode cX11_init 8 = .ok (.return_, 1) := by decide +kernel
theorem bk_r0 : decode prog_22_method_5_code 0 = .ok (.aload_n 0, 1) := by decide +kernel
theorem bk_r1 : decode prog_22_method_5_code 1 = .ok (.aload_n 1, 1) := by decide +kernel
theorem bk_r2 : decode prog_22_method_5_code 2 = .ok (.aload_n 2, 1) := by decide +kernel
theorem bk_r3 : decode prog_22_method_5_code 3 = .ok (.iload_n 3, 1) := by decide +kernel
theorem bk_r4 : decode prog_22_method_5_code 4 = .ok (.iload 4, 2) := by decide +kernel
theorem bk_r6 : decode prog_22_method_5_code 6 = .ok (.invokespecial 16, 3) := by decide +kernel
theorem bk_r9 : decode prog_22_method_5_code 9 = .ok (.return_, 1) := by decide +kernel
theorem bk_e0 : decode prog_16_method_5_code 0 = .ok (.aload_n 0, 1) := by decide +kernel
theorem bk_e1 : decode prog_16_method_5_code 1 = .ok (.aload_n 1, 1) := by decide +kernel
theorem bk_e2 : decode prog_16_method_5_code 2 = .ok (.aload_n 2, 1) := by decide +kernel
theorem bk_e3 : decode prog_16_method_5_code 3 = .ok (.iload_n 3, 1) := by decide +kernel
theorem bk_e4 : decode prog_16_method_5_code 4 = .ok (.iload 4, 2) := by decide +kernel
theorem bk_e6 : decode prog_16_method_5_code 6 = .ok (.invokespecial 16, 3) := by decide +kernel
theorem bk_e9 : decode prog_16_method_5_code 9 = .ok (.return_, 1) := by decide +kernel
theorem bk_t0 : decode prog_27_method_5_code 0 = .ok (.aload_n 0, 1) := by decide +kernel
theorem bk_t1 : decode prog_27_method_5_code 1 = .ok (.invokespecial 1, 3) := by decide +kernel
theorem bk_t4 : decode prog_27_method_5_code 4 = .ok (.aload_n 0, 1) := by decide +kernel
theorem bk_t5 : decode prog_27_method_5_code 5 = .ok (.aload_n 0, 1) := by decide +kernel
theorem bk_t6 : decode prog_27_method_5_code 6 = .ok (.putfield 7, 3) := by decide +kernel
theorem bk_t9 : decode prog_27_method_5_code 9 = .ok (.aload_n 0, 1) := by decide +kernel
theorem bk_t10 : decode prog_27_method_5_code 10 = .ok (.getstatic 13, 3) := by decide +kernel
theorem bk_t13 : decode prog_27_method_5_code 13 = .ok (.putfield 17, 3) := by decide +kernel
theorem bk_t16 : decode prog_27_method_5_code 16 = .ok (.aload_n 0, 1) := by decide +kernel
theorem bk_t17 : decode prog_27_method_5_code 17 = .ok (.getstatic 20, 3) := by decide +kernel
theorem bk_t20 : decode prog_27_method_5_code 20 = .ok (.putfield 24, 3) := by decide +kernel
theorem bk_t23 : decode prog_27_method_5_code 23 = .ok (.iload 4, 2) := by decide +kernel
theorem bk_t25 : decode prog_27_method_5_code 25 = .ok (.ifCond .eq 11, 3) := by decide +kernel
theorem bk_t36 : decode prog_27_method_5_code 36 = .ok (.aload_n 0, 1) := by decide +kernel
theorem bk_t37 : decode prog_27_method_5_code 37 = .ok (.aconst_null, 1) := by decide +kernel
theorem bk_t38 : decode prog_27_method_5_code 38 = .ok (.putfield 17, 3) := by decide +kernel
theorem bk_t41 : decode prog_27_method_5_code 41 = .ok (.aload_n 0, 1) := by decide +kernel
theorem bk_t42 : decode prog_27_method_5_code 42 = .ok (.aload_n 1, 1) := by decide +kernel
theorem bk_t43 : decode prog_27_method_5_code 43 = .ok (.putfield 31, 3) := by decide +kernel
theorem bk_t46 : decode prog_27_method_5_code 46 = .ok (.aload_n 0, 1) := by decide +kernel
theorem bk_t47 : decode prog_27_method_5_code 47 = .ok (.aload_n 2, 1) := by decide +kernel
theorem bk_t48 : decode prog_27_method_5_code 48 = .ok (.putfield 7, 3) := by decide +kernel
theorem bk_t51 : decode prog_27_method_5_code 51 = .ok (.iload_n 3, 1) := by decide +kernel
theorem bk_t52 : decode prog_27_method_5_code 52 = .ok (.ifCond .ne 8, 3) := by decide +kernel
theorem bk_t55 : decode prog_27_method_5_code 55 = .ok (.aload_n 0, 1) := by decide +kernel
theorem bk_t56 : decode prog_27_method_5_code 56 = .ok (.aconst_null, 1) := by decide +kernel
theorem bk_t57 : decode prog_27_method_5_code 57 = .ok (.putfield 24, 3) := by decide +kernel
theorem bk_t60 : decode prog_27_method_5_code 60 = .ok (.return_, 1) := by decide +kernel
theorem bk_cat {r : Nat} : ∀ v ∈ ([.ref r, .null, .null, .int 0, .int 0] : List Value), v.category = 1 := by
  intro v hv
  simp only [List.mem_cons, List.mem_nil_iff, or_false] at hv
  rcases hv with rfl | rfl | rfl | rfl | rfl <;> rfl
abbrev bk_as (Γ : ao_C) (a : Nat) : List Value := [.ref (Γ.2.2.2 + a), .null, .null, .int 0, .int 0]
section BkT
variable {Γ : ao_C} {σ : ao_S} {a : Nat}
set_option maxRecDepth 100000 in
set_option maxHeartbeats 4000000 in
theorem bk_AT (hκ : σ.2.2.1 a = 99) (d : Nat) (hd : 1 ≤ d) : bk_A Γ (bk_yT, prog_27_method_5_code, 5, none, []) d σ a (bk_as Γ a) := by
  refine bk_of (by decide) bk_cat (Nat.le_refl _) ?_
  show bk_W Γ (bk_yT, prog_27_method_5_code, 5, none, []) (ao_rm d 0 0) (bk_Q Γ σ a) 0 0 0 [some (.ref (Γ.2.2.2 + a)), some .null, some .null, some (.int 0), some (.int 0)] [] σ a bk_V
  refine bk_step (fun _ _ _ _ _ _ _ _ _ _ _ _ _ hX hl kk => lv_aload_n hX.1 hX.2.1 bk_t0 rfl (hl.2.2 0 _ rfl).1 kk) ?_
  refine bk_step (pc' := 4) (st' := []) (fun p e s m args below meth c H locs cells slots ls hX hl kk => W.objInit hX.1 hX.2.1 hX.2.2.2.2.2.2.1 (hX.2.2.2.2.2.2.2.1 _ bk_lT1) (hX.2.2.2.2.2.2.2.1 _ ao_objW.1) (hX.2.2.2.2.2.2.2.1 _ ao_objW.2) (g := F0 m 1 ls [.ref (Γ.2.2.2 + a)]) rfl (hl.1.trans hX.2.2.1.symm) rfl bk_t1 hd (by show 2 * 0 + 0 + 12 ≤ 64 * d; omega) kk) ?_
  refine bk_step (fun _ _ _ _ _ _ _ _ _ _ _ _ _ hX hl kk => lv_aload_n hX.1 hX.2.1 bk_t4 rfl (hl.2.2 0 _ rfl).1 kk) ?_
  refine bk_step (fun _ _ _ _ _ _ _ _ _ _ _ _ _ hX hl kk => lv_aload_n hX.1 hX.2.1 bk_t5 rfl (hl.2.2 0 _ rfl).1 kk) ?_
  refine bk_put 0 bk_t6 (by decide) hκ bk_f7 rfl rfl rfl ?_
  refine bk_step (fun _ _ _ _ _ _ _ _ _ _ _ _ _ hX hl kk => lv_aload_n hX.1 hX.2.1 bk_t9 rfl (hl.2.2 0 _ rfl).1 kk) ?_
  refine bk_get (fun s hK => hK.2.2.1.1) bk_t10 bk_f13 (fun v hv => ?_)
  refine bk_put 1 bk_t13 (by decide) hκ bk_f17 rfl (by rcases hv with rfl | ⟨z, rfl⟩ <;> rfl) (by rcases hv with rfl | ⟨z, rfl⟩ <;> rfl) ?_
  refine bk_step (fun _ _ _ _ _ _ _ _ _ _ _ _ _ hX hl kk => lv_aload_n hX.1 hX.2.1 bk_t16 rfl (hl.2.2 0 _ rfl).1 kk) ?_
  refine bk_get (fun s hK => hK.2.2.2.1.1) bk_t17 bk_f20 (fun w hw => ?_)
  refine bk_put 2 bk_t20 (by decide) hκ bk_f24 rfl (by rcases hw with rfl | ⟨z, rfl⟩ <;> rfl) (by rcases hw with rfl | ⟨z, rfl⟩ <;> rfl) ?_
  refine bk_step (fun _ _ _ _ _ _ _ _ _ _ _ _ _ hX hl kk => lv_iload hX.1 hX.2.1 bk_t23 (hl.2.2 4 _ rfl).1 kk) ?_
  refine bk_if0 36 bk_t25 (by decide) ?_
  refine bk_step (fun _ _ _ _ _ _ _ _ _ _ _ _ _ hX hl kk => lv_aload_n hX.1 hX.2.1 bk_t36 rfl (hl.2.2 0 _ rfl).1 kk) ?_
  refine bk_step (fun _ _ _ _ _ _ _ _ _ _ _ _ _ hX hl kk => lv_null hX.1 hX.2.1 bk_t37 kk) ?_
  refine bk_put 1 bk_t38 (by decide) hκ bk_f17 rfl rfl rfl ?_
  refine bk_step (fun _ _ _ _ _ _ _ _ _ _ _ _ _ hX hl kk => lv_aload_n hX.1 hX.2.1 bk_t41 rfl (hl.2.2 0 _ rfl).1 kk) ?_
  refine bk_step (fun _ _ _ _ _ _ _ _ _ _ _ _ _ hX hl kk => lv_aload_nN hX.1 hX.2.1 bk_t42 rfl (hl.2.2 1 _ rfl).1 kk) ?_
  refine bk_put 3 bk_t43 (by decide) hκ bk_f31 rfl rfl rfl ?_
  refine bk_step (fun _ _ _ _ _ _ _ _ _ _ _ _ _ hX hl kk => lv_aload_n hX.1 hX.2.1 bk_t46 rfl (hl.2.2 0 _ rfl).1 kk) ?_
  refine bk_step (fun _ _ _ _ _ _ _ _ _ _ _ _ _ hX hl kk => lv_aload_nN hX.1 hX.2.1 bk_t47 rfl (hl.2.2 2 _ rfl).1 kk) ?_
  refine bk_put 0 bk_t48 (by decide) hκ bk_f7 rfl rfl rfl ?_
  refine bk_step (fun _ _ _ _ _ _ _ _ _ _ _ _ _ hX hl kk => lv_iload_n hX.1 hX.2.1 bk_t51 rfl (hl.2.2 3 _ rfl).1 kk) ?_
  refine bk_ifn 60 bk_t52 (by decide) ?_
  refine bk_step (fun _ _ _ _ _ _ _ _ _ _ _ _ _ hX hl kk => lv_aload_n hX.1 hX.2.1 bk_t55 rfl (hl.2.2 0 _ rfl).1 kk) ?_
  refine bk_step (fun _ _ _ _ _ _ _ _ _ _ _ _ _ hX hl kk => lv_null hX.1 hX.2.1 bk_t56 kk) ?_
  refine bk_put 2 bk_t57 (by decide) hκ bk_f24 rfl rfl rfl ?_
  refine bk_return bk_t60 rfl (fun k hk => ?_)
  rcases (show k = 0 ∨ k = 1 ∨ k = 2 ∨ k = 3 ∨ k = 4 ∨ k = 5 by omega) with rfl | rfl | rfl | rfl | rfl | rfl <;> rfl
set_option maxRecDepth 100000 in
set_option maxHeartbeats 4000000 in
theorem bk_AE (hκ : σ.2.2.1 a = 99) (d : Nat) (hd : 2 ≤ d) : bk_A Γ (bk_yE, prog_16_method_5_code, 5, none, []) d σ a (bk_as Γ a) := by
  refine bk_of (by decide) bk_cat (Nat.le_refl _) ?_
  show bk_W Γ (bk_yE, prog_16_method_5_code, 5, none, []) (ao_rm d 0 0) (bk_Q Γ σ a) 0 0 0 [some (.ref (Γ.2.2.2 + a)), some .null, some .null, some (.int 0), some (.int 0)] [] σ a bk_V
  refine bk_step (fun _ _ _ _ _ _ _ _ _ _ _ _ _ hX hl kk => lv_aload_n hX.1 hX.2.1 bk_e0 rfl (hl.2.2 0 _ rfl).1 kk) ?_
  refine bk_step (fun _ _ _ _ _ _ _ _ _ _ _ _ _ hX hl kk => lv_aload_nN hX.1 hX.2.1 bk_e1 rfl (hl.2.2 1 _ rfl).1 kk) ?_
  refine bk_step (fun _ _ _ _ _ _ _ _ _ _ _ _ _ hX hl kk => lv_aload_nN hX.1 hX.2.1 bk_e2 rfl (hl.2.2 2 _ rfl).1 kk) ?_
  refine bk_step (fun _ _ _ _ _ _ _ _ _ _ _ _ _ hX hl kk => lv_iload_n hX.1 hX.2.1 bk_e3 rfl (hl.2.2 3 _ rfl).1 kk) ?_
  refine bk_step (fun _ _ _ _ _ _ _ _ _ _ _ _ _ hX hl kk => lv_iload hX.1 hX.2.1 bk_e4 (hl.2.2 4 _ rfl).1 kk) ?_
  refine bk_call [.null, .null, .int 0, .int 0] (bk_AT hκ (d - 1) (by omega)) bk_e6 bk_cE bk_iE rfl rfl rfl (Nat.zero_le _) ⟨by show d - 1 + 1 ≤ d; omega, by show 8 + (5 + 11) + 64 * (d - 1) ≤ 64 * d; omega⟩ ?_
  exact bk_return bk_e9 rfl (fun _ _ => rfl)
set_option maxRecDepth 100000 in
set_option maxHeartbeats 4000000 in
theorem bk_AR (hκ : σ.2.2.1 a = 99) (d : Nat) (hd : 3 ≤ d) : bk_A Γ (bk_yR, prog_22_method_5_code, 5, none, []) d σ a (bk_as Γ a) := by
  refine bk_of (by decide) bk_cat (Nat.le_refl _) ?_
  show bk_W Γ (bk_yR, prog_22_method_5_code, 5, none, []) (ao_rm d 0 0) (bk_Q Γ σ a) 0 0 0 [some (.ref (Γ.2.2.2 + a)), some .null, some .null, some (.int 0), some (.int 0)] [] σ a bk_V
  refine bk_step (fun _ _ _ _ _ _ _ _ _ _ _ _ _ hX hl kk => lv_aload_n hX.1 hX.2.1 bk_r0 rfl (hl.2.2 0 _ rfl).1 kk) ?_
  refine bk_step (fun _ _ _ _ _ _ _ _ _ _ _ _ _ hX hl kk => lv_aload_nN hX.1 hX.2.1 bk_r1 rfl (hl.2.2 1 _ rfl).1 kk) ?_
  refine bk_step (fun _ _ _ _ _ _ _ _ _ _ _ _ _ hX hl kk => lv_aload_nN hX.1 hX.2.1 bk_r2 rfl (hl.2.2 2 _ rfl).1 kk) ?_
  refine bk_step (fun _ _ _ _ _ _ _ _ _ _ _ _ _ hX hl kk => lv_iload_n hX.1 hX.2.1 bk_r3 rfl (hl.2.2 3 _ rfl).1 kk) ?_
  refine bk_step (fun _ _ _ _ _ _ _ _ _ _ _ _ _ hX hl kk => lv_iload hX.1 hX.2.1 bk_r4 (hl.2.2 4 _ rfl).1 kk) ?_
  refine bk_call [.null, .null, .int 0, .int 0] (bk_AE hκ (d - 1) (by omega)) bk_r6 bk_cR bk_iR rfl rfl rfl (Nat.zero_le _) ⟨by show d - 1 + 1 ≤ d; omega, by show 8 + (5 + 11) + 64 * (d - 1) ≤ 64 * d; omega⟩ ?_
  exact bk_return bk_r9 rfl (fun _ _ => rfl)
set_option maxRecDepth 100000 in
set_option maxHeartbeats 4000000 in
theorem bk_AB (hκ : σ.2.2.1 a = 99) (d : Nat) (hd : 4 ≤ d) : bk_A Γ (yX11_init, cX11_init, 1, none, []) d σ a [.ref (Γ.2.2.2 + a)] := by
  refine bk_of (by decide) (by intro v hv; simp only [List.mem_cons, List.mem_nil_iff, or_false] at hv; rw [hv]; rfl) (Nat.le_refl _) ?_
  show bk_W Γ (yX11_init, cX11_init, 1, none, []) (ao_rm d 0 0) (bk_Q Γ σ a) 0 0 0 [some (.ref (Γ.2.2.2 + a))] [] σ a bk_V
  refine bk_step (fun _ _ _ _ _ _ _ _ _ _ _ _ _ hX hl kk => lv_aload_n hX.1 hX.2.1 bk_b0 rfl (hl.2.2 0 _ rfl).1 kk) ?_
  refine bk_step (fun _ _ _ _ _ _ _ _ _ _ _ _ _ hX hl kk => lv_null hX.1 hX.2.1 bk_b1 kk) ?_
  refine bk_step (fun _ _ _ _ _ _ _ _ _ _ _ _ _ hX hl kk => lv_null hX.1 hX.2.1 bk_b2 kk) ?_
  refine bk_step (fun _ _ _ _ _ _ _ _ _ _ _ _ _ hX hl kk => lv_iconst (v := 0) hX.1 hX.2.1 bk_b3 rfl kk) ?_
  refine bk_step (fun _ _ _ _ _ _ _ _ _ _ _ _ _ hX hl kk => lv_iconst (v := 0) hX.1 hX.2.1 bk_b4 rfl kk) ?_
  refine bk_call [.null, .null, .int 0, .int 0] (bk_AR hκ (d - 1) (by omega)) bk_b5 bk_cB bk_iB rfl rfl rfl (Nat.zero_le _) ⟨by show d - 1 + 1 ≤ d; omega, by show 8 + (5 + 11) + 64 * (d - 1) ≤ 64 * d; omega⟩ ?_
  exact bk_return bk_b8 rfl (fun _ _ => rfl)
end BkT
section BkM
variable {Γ : ao_C} {μ : ao_Mi} {R : Room} {Q : List Frame → Array Value → State → State → Prop} {mc ms mc2 ms2 pc : Nat} {lo : List (Option Value)} {st : List Value} {M : ao_M} {ρ : ao_H}
/-- new Broken() -/
theorem bi_broken (n : Nat) {ik ic : Nat} {host : String} (hd0 : decode μ.2.1 pc = .ok (.new ik, 3)) (hd1 : decode μ.2.1 (pc + 3) = .ok (.dup, 1)) (hd2 : decode μ.2.1 (pc + 4) = .ok (.invokespecial ic, 3)) (hz : ρ.2.2.2.1 = some n) (hw : Cond.classLink μ.1.cls ik RX11 ∈ ao_G) (hl : Cond.methodLinkNest μ.1.cls ic yX11_init host ∈ lw_tbl)
    (hrs : ((.ref (Γ.2.2.2 + n) :: st : List Value).map fun v => v.category).sum ≤ 8) (hRm : 5 ≤ R.frames ∧ 276 ≤ R.locals) (hm : mc2 + 1 ≤ mc ∧ ms2 + 6 ≤ ms) (kk : ao_W Γ μ R Q mc2 ms2 (pc + 7) lo (.ref (Γ.2.2.2 + n) :: st) (ao_zr M n, ao_nw ρ n 21 0 6)) : ao_W Γ μ R Q mc ms pc lo st (M, ρ) := by
  intro p e s m args below meth c H locs cells slots ls hX hR hS hc hs hlo
  have hX' := hX
  obtain ⟨hx, hb, hml, -, -, -, hown, hts, -, hK⟩ := hX
  have hs0 : H.size = Γ.2.2.2 + n := hR.2.2 n hz
  have hq : vwCl[11]? = some (RX11, TX11, 6) := rfl
  have hKc := hK.1.1 11 _ hq
  refine W.newcK hx hb hown (hts _ hw) (hts _ bk_cM.2.2.2) (hts _ bk_cM.2.2.1) rfl hd0 (by omega) (by omega) hKc.2.1 hs0 (fun H' kC hkC h1 h2 h3 => ?_)
  have h2' : H'.size = H.size + 1 := by rw [h2, hs0]
  have h3' : ∀ z, z < H.size → H'[z]? = H[z]? := fun z hz' => h3 z (by omega)
  have hB : bk_OB Γ n H' bk_V := u_born (ao_ty 11) hts (ao_ck hq).1 hKc hkC h1 (ao_ck hq).2.1
  have hκ : (ao_nw ρ n 99 0 6).2.1 n = 99 := by simp [ao_nw]
  have hR9 : ao_Rp Γ (ao_zr M n, ao_nw ρ n 99 0 6) H' := by
    refine ao_Rp_new hR hz h2' h3' ⟨fun k hk he => ?_, fun ci' q' hq' he => ?_⟩
    · have : 99 = k := by simpa [ao_nw] using he
      omega
    · have : 99 = 10 + ci' := by simpa [ao_nw] using he
      have : ci' = 89 := by omega
      subst this
      simp [vwCl] at hq'
  have hS9 := ao_S_new hS h2' h3'
  refine lv_dup hx hb hd1 rfl ?_
  have hcn : va_CN R s args μ.1.cls ic yX11_init host cX11_init 1 none (ao_ws (yX11_init, cX11_init, 1, none, [])) (ao_rm 4 0 0) 0 0 0 :=
    va_cnB (Ts := ao_G) (ws' := ao_G) 0 hts (ao_good (ao_wsIn bk_cM.1) (fun _ h => h)) rfl rfl rfl (hK.2.2.2.2.2.2.2.2.1 _ _ _ _ hl) (hts _ bk_cM.2.2.1) ⟨by decide, by decide, by decide +kernel⟩ ⟨by show 4 + 1 ≤ R.frames; omega, by show 8 + (1 + 11) + 64 * 4 ≤ R.locals; omega⟩
  have hr := va_runIN (b := Γ.2.2.2 + n) (As := []) (rest := .ref (Γ.2.2.2 + n) :: st) (Ts := ao_G) (nL := μ.2.2.1) (H := H') (p := p) (e := e) (R := R) (s := s) (m := m) (args := args) (below := below) (meth := meth) (c := c) (locs := locs) (cells := cells + 1) (slots := slots + 6) (cc := μ.2.1) (g := F0 m (pc + 4) ls (.ref (Γ.2.2.2 + n) :: .ref (Γ.2.2.2 + n) :: st)) ⟨hx, hb, hml, hown, hts⟩ (bk_met (bk_AB (Γ := Γ) (σ := (ao_zr M n, ao_nw ρ n 99 0 6)) (a := n) hκ 4 (Nat.le_refl _))) ⟨hcn, rfl, hts _ bk_cM.2.1⟩ ⟨bk_blind, fun U hU hW => ⟨rfl, by rw [hU]; exact hR9, ao_K_next hK hW (by rw [hU]; exact hS9), by rw [hU]; exact hB⟩⟩ rfl rfl hlo.1 rfl (show 2 * 0 + _ ≤ 8 by simpa using hrs) hd2 ⟨by omega, by omega⟩
  intro T hT X
  obtain ⟨v, st₀, t, T', L, h0, X', hL, e1, -, ⟨hv, hR', hB', hF⟩, hgo⟩ := hr T hT X
  cases hv
  have hS' : va_S (ao_fr Γ) s.heap T'.heap (locs ++ L) := (vx_keep h0 e1 hS9 (A1 := ao_fr Γ) (free := ao_fr Γ) (fun q _ h => h) (fun q h => h) hL hF).2.2
  have hRf : ao_Rp Γ (ao_zr M n, ao_nw ρ n 21 0 6) T'.heap := by
    rw [e1]
    refine ⟨hR'.1, fun i => ?_, hR'.2.2⟩
    by_cases hi : i = n
    · subst hi
      refine ⟨fun k hk he => ?_, fun ci' q' hq' he => ?_⟩
      · have : 21 = k := by simpa [ao_nw] using he
        omega
      · have h21 : 21 = 10 + ci' := by simpa [ao_nw] using he
        have : ci' = 11 := by omega
        subst this
        have hqq : q' = (RX11, TX11, 6) := Option.some.inj (hq'.symm.trans hq)
        subst hqq
        refine hB'.to (fun k hk => ?_)
        simp only [ao_zr, ao_nw, if_true]
        rcases (show k = 0 ∨ k = 1 ∨ k = 2 ∨ k = 3 ∨ k = 4 ∨ k = 5 by have : k < 6 := hk; omega) with rfl | rfl | rfl | rfl | rfl | rfl <;> rfl
    · have h9 := hR'.2.1 i
      have hk9 : (ao_nw ρ n 99 0 6).2.1 i = (ao_nw ρ n 21 0 6).2.1 i := by simp [ao_nw, hi]
      exact ⟨fun k hk he => h9.1 k hk (hk9.trans he), fun ci' q' hq' he => h9.2 ci' q' hq' (hk9.trans he)⟩
  obtain ⟨t2, a2, b2⟩ := kk p e s m args below meth c T'.heap (locs ++ L) (cells + 1 + 0) (slots + 6 + 0) ls hX' hRf hS' (by omega) (by omega) hlo T' rfl X'
  exact ⟨t2, hgo t2 a2, b2⟩
end BkM
