/-! ===== texts: String.length and charAt of the constants whose letters are read ===== -/
section AoTx
variable {Γ : ao_C} {μ : ao_Mi} {R : Room} {Q : List Frame → Array Value → State → State → Prop} {mc ms pc : Nat} {lo : List (Option Value)} {st : List Value} {σ : ao_S}
/-- a field of text i -/
theorem at_getf (i : Nat) (hi : i < 13) {n d : String} {index : Nat} {v : Value} (hE : ∀ s : State, ao_K Γ s → va_OF "java/lang/String" n d v (ao_tK Γ i) (ao_fr Γ) s s.heap) (hd : decode μ.2.1 pc = .ok (.getfield index, 3)) (hw : Cond.fieldLink μ.1.cls index "java/lang/String" n d ∈ ao_G)
    (k : ao_W Γ μ R Q mc ms (pc + 3) lo (v :: st) σ) : ao_W Γ μ R Q mc ms pc lo (.ref (ao_tK Γ i) :: st) σ :=
  fun p e s m args below meth c H locs cells slots ls hX hR hS hc hs hl => vk_getf hX.1 hX.2.1 (hE s hX.2.2.2.2.2.2.2.2.2) hS hX.2.2.2.2.2.2.1 (hX.2.2.2.2.2.2.2.1 _ hw) (fun _ h => h) hd (k p e s m args below meth c H locs cells slots ls hX hR hS hc hs hl)
theorem at_alen (i : Nat) (hi : i < 13) (hd : decode μ.2.1 pc = .ok (.arraylength, 1)) (k : ao_W Γ μ R Q mc ms (pc + 1) lo (.int (nI (ao_len.getD i 0)) :: st) σ) : ao_W Γ μ R Q mc ms pc lo (.ref (ao_tV Γ i) :: st) σ :=
  fun p e s m args below meth c H locs cells slots ls hX hR hS hc hs hl => va_tlen hX.1 hX.2.1 (hX.2.2.2.2.2.2.2.2.2.2.2.2.2.2.1.1.1 i hi).2.2.2 hS rfl hd (k p e s m args below meth c H locs cells slots ls hX hR hS hc hs hl)
theorem at_bald (i : Nat) (hi : i < 13) {x : Int32} (hin : ¬ (x < 0 ∨ ao_len.getD i 0 ≤ x.toNatClampNeg)) (hd : decode μ.2.1 pc = .ok (.baload, 1)) (k : ao_W Γ μ R Q mc ms (pc + 1) lo (.int ((ao_byt.getD i []).getD x.toNatClampNeg 0) :: st) σ) : ao_W Γ μ R Q mc ms pc lo (.int x :: .ref (ao_tV Γ i) :: st) σ :=
  fun p e s m args below meth c H locs cells slots ls hX hR hS hc hs hl => va_tb hX.1 hX.2.1 (hX.2.2.2.2.2.2.2.2.2.2.2.2.2.2.1.1.1 i hi).2.2.2 hS hin rfl hd (k p e s m args below meth c H locs cells slots ls hX hR hS hc hs hl)
theorem at_compact {index : Nat} (hd : decode μ.2.1 pc = .ok (.getstatic index, 3)) (hw : Cond.fieldLink μ.1.cls index "java/lang/String" "COMPACT_STRINGS" "Z" ∈ ao_G) (k : ao_W Γ μ R Q mc ms (pc + 3) lo (.int 1 :: st) σ) : ao_W Γ μ R Q mc ms pc lo st σ :=
  fun p e s m args below meth c H locs cells slots ls hX hR hS hc hs hl => va_gets hX.1 hX.2.1 hX.2.2.2.2.2.2.2.2.2.2.2.2.2.2.2.2.2.2.2.2.1 hS hX.2.2.2.2.2.2.1 (hX.2.2.2.2.2.2.2.1 _ hw) (fun _ h => h) hd (k p e s m args below meth c H locs cells slots ls hX hR hS hc hs hl)
theorem at_formatter {index : Nat} (hd : decode μ.2.1 pc = .ok (.getstatic index, 3)) (hw : Cond.fieldLink μ.1.cls index "jdk/internal/util/Preconditions" "SIOOBE_FORMATTER" "Ljava/util/function/BiFunction;" ∈ ao_G) (k : ∀ v : Value, (v = .null ∨ ∃ a, v = .ref a) → ao_W Γ μ R Q mc ms (pc + 3) lo (v :: st) σ) : ao_W Γ μ R Q mc ms pc lo st σ :=
  fun p e s m args below meth c H locs cells slots ls hX hR hS hc hs hl => by
    rcases hX.2.2.2.2.2.2.2.2.2.2.2.2.2.2.2.2.2.2.2.2.2 with h | ⟨t, h⟩
    · exact va_gets hX.1 hX.2.1 h hS hX.2.2.2.2.2.2.1 (hX.2.2.2.2.2.2.2.1 _ hw) (fun _ h => h) hd (k _ (Or.inl rfl) p e s m args below meth c H locs cells slots ls hX hR hS hc hs hl)
    · exact va_gets hX.1 hX.2.1 h hS hX.2.2.2.2.2.2.1 (hX.2.2.2.2.2.2.2.1 _ hw) (fun _ h => h) hd (k _ (Or.inr ⟨t, rfl⟩) p e s m args below meth c H locs cells slots ls hX hR hS hc hs hl)
/-- a call on text i -/
theorem at_callV (i : Nat) (hi13 : i < 13) {index n d nL : Nat} {y : MethodName} {cc : ByteArray} {ret : Option FieldType} (As : List Value) {rest : List Value} {Φ : ao_Po}
    (hA : ao_A Γ (y, cc, nL, ret, []) d 0 0 (.ref (ao_tK Γ i) :: As) σ Φ) (hx : ao_nx Φ) (hd : decode μ.2.1 pc = .ok (.invokevirtual index, 3)) (hw : ao_cB μ.1.cls index y cc nL ret n) (hi : Cond.instanceMethod y ∈ ao_G) (hse : Cond.selects "java/lang/String" y y ∈ ao_G)
    (hn : As.length = n) (hst : st = As.reverse ++ .ref (ao_tK Γ i) :: rest) (hrs : (rest.map fun v => v.category).sum ≤ 8) (hRm : d + 1 ≤ R.frames ∧ 8 + (nL + 11) + 64 * d ≤ R.locals)
    (k : ∀ r σ', Φ (.inl r) σ' → ao_W Γ μ R Q mc ms (pc + 3) lo (r.toList ++ rest) σ') : ao_W Γ μ R Q mc ms pc lo st σ := by
  intro p e s m args below meth c H locs cells slots ls hX hR hS hc hs hl
  subst hst
  have hX' := hX
  obtain ⟨hx', hb, hml, -, -, -, hown, hts, -, hK⟩ := hX
  have hrec := vk_recv hK.2.2.2.2.2.1.1 hi13 hS
  refine ao_behind (vx_runV (b := ao_tK Γ i) (As := As) (rest := rest) (Ts := ao_G) (nL := μ.2.2.1) (g := F0 m pc ls (As.reverse ++ .ref (ao_tK Γ i) :: rest)) ⟨hx', hb, hml, hown, hts⟩ hA ⟨ao_cB_of hw hts hRm, hts _ hi, hts _ hse⟩ ⟨ao_Pc_blind, hrec, fun U hU hW => ao_pre hK hR hS hU hW⟩ rfl hn hl.1 rfl ?_ hd ⟨by omega, by omega⟩) hX' hS hl hc hs (Nat.zero_le _) (Nat.zero_le _) k (fun E σ' h => absurd h (hx E σ'))
  show 2 * 0 + _ ≤ 8
  simpa using hrs
end AoTx
/-- it answers x, nothing changes -/
def ao_PC (σ : ao_S) (x : Int32) : ao_Po := fun o s => o = .inl (some (.int x)) ∧ s = σ
theorem ao_nxC {σ : ao_S} {x : Int32} : ao_nx (ao_PC σ x) := fun _ _ h => nomatch h.1
def ao_PN (σ : ao_S) : ao_Po := fun o s => o = .inl none ∧ s = σ
theorem ao_nxN {σ : ao_S} : ao_nx (ao_PN σ) := fun _ _ h => nomatch h.1
abbrev uJ_coder : ao_Mi := (yJ0_coder_7d493, cJ0_coder_7d493, 1, some .byte, [])
abbrev uJ_isLatin1 : ao_Mi := (yJ0_isLatin1_aae02, cJ0_isLatin1_aae02, 1, some .boolean, [])
abbrev uJ_length : ao_Mi := (yJ0_length_8abf5, cJ0_length_8abf5, 1, some .int, [])
abbrev uJ_check3 : ao_Mi := (yJ3_checkIndex_8e157, cJ3_checkIndex_8e157, 3, some .int, [])
abbrev uJ_check : ao_Mi := (yJ0_checkIndex_df160, cJ0_checkIndex_df160, 2, none, [])
abbrev uJ_char1 : ao_Mi := (yJ1_charAt_3b067, cJ1_charAt_3b067, 2, some .char, [])
abbrev uJ_charAt : ao_Mi := (yJ0_charAt_5068e, cJ0_charAt_5068e, 2, some .char, [])
theorem at_coderOF {Γ : ao_C} (i : Nat) (hi : i < 13) : ∀ s : State, ao_K Γ s → va_OF "java/lang/String" "coder" "B" (.int 0) (ao_tK Γ i) (ao_fr Γ) s s.heap := fun _ h => (h.2.2.2.2.2.1.1.1 i hi).2.1
theorem at_valueOF {Γ : ao_C} (i : Nat) (hi : i < 13) : ∀ s : State, ao_K Γ s → va_OF "java/lang/String" "value" "[B" (.ref (ao_tV Γ i)) (ao_tK Γ i) (ao_fr Γ) s s.heap := fun _ h => (h.2.2.2.2.2.1.1.1 i hi).2.2.1
theorem aJ_coder {Γ : ao_C} (d i : Nat) (hi : i < 13) (σ : ao_S) : ao_A Γ uJ_coder d 0 0 [.ref (ao_tK Γ i)] σ (ao_PC σ 0) := by
  refine ao_of (by decide) (ao_cat1 (Nat.le_of_ble_eq_true rfl)) (Nat.le_of_ble_eq_true rfl) ?_
  show ao_W Γ uJ_coder (ao_rm d 0 0) (ao_Q Γ (ao_PC σ 0) 0 0) 0 0 0 [some (.ref (ao_tK Γ i))] [] σ
  refine at_compact dJ0_coder_7d493_0 lf_J0_38 ?_
  refine ao_if_eq 13 dJ0_coder_7d493_3 (by decide) (fun c => absurd c (by decide)) (fun _ => ?_)
  refine ao_aload_n 0 dJ0_coder_7d493_6 rfl rfl ?_
  refine at_getf i hi (at_coderOF i hi) dJ0_coder_7d493_7 lf_J0_15 ?_
  refine ao_goto 14 dJ0_coder_7d493_10 (by decide) ?_
  exact ao_ireturn dJ0_coder_7d493_14 rfl rfl ⟨rfl, rfl⟩
theorem aJ_isLatin1 {Γ : ao_C} (d i : Nat) (hi : i < 13) (σ : ao_S) : ao_A Γ uJ_isLatin1 d 0 0 [.ref (ao_tK Γ i)] σ (ao_PC σ 1) := by
  refine ao_of (by decide) (ao_cat1 (Nat.le_of_ble_eq_true rfl)) (Nat.le_of_ble_eq_true rfl) ?_
  show ao_W Γ uJ_isLatin1 (ao_rm d 0 0) (ao_Q Γ (ao_PC σ 1) 0 0) 0 0 0 [some (.ref (ao_tK Γ i))] [] σ
  refine at_compact dJ0_isLatin1_aae02_0 lf_J0_38 ?_
  refine ao_if_eq 17 dJ0_isLatin1_aae02_3 (by decide) (fun c => absurd c (by decide)) (fun _ => ?_)
  refine ao_aload_n 0 dJ0_isLatin1_aae02_6 rfl rfl ?_
  refine at_getf i hi (at_coderOF i hi) dJ0_isLatin1_aae02_7 lf_J0_15 ?_
  refine ao_if_ne 17 dJ0_isLatin1_aae02_10 (by decide) (fun c => absurd rfl c) (fun _ => ?_)
  refine ao_iconst (v := 1) dJ0_isLatin1_aae02_13 (by decide) ?_
  refine ao_goto 18 dJ0_isLatin1_aae02_14 (by decide) ?_
  exact ao_ireturn dJ0_isLatin1_aae02_18 rfl rfl ⟨rfl, rfl⟩
theorem aJ_length {Γ : ao_C} (d : Nat) (hd : 1 ≤ d) (i : Nat) (hi : i < 13) (σ : ao_S) : ao_A Γ uJ_length d 0 0 [.ref (ao_tK Γ i)] σ (ao_PC σ (nI (ao_len.getD i 0))) := by
  refine ao_of (by decide) (ao_cat1 (Nat.le_of_ble_eq_true rfl)) (Nat.le_of_ble_eq_true rfl) ?_
  show ao_W Γ uJ_length (ao_rm d 0 0) (ao_Q Γ (ao_PC σ (nI (ao_len.getD i 0))) 0 0) 0 0 0 [some (.ref (ao_tK Γ i))] [] σ
  refine ao_aload_n 0 dJ0_length_8abf5_0 rfl rfl ?_
  refine at_getf i hi (at_valueOF i hi) dJ0_length_8abf5_1 lf_J0_9 ?_
  refine at_alen i hi dJ0_length_8abf5_4 ?_
  refine ao_aload_n 0 dJ0_length_8abf5_5 rfl rfl ?_
  refine at_callV i hi [] (aJ_coder (d - 1) i hi σ) ao_nxC dJ0_length_8abf5_6 lc_J0_335 li_J0_coder_7d493 ls_J0_coder_7d493 rfl rfl (Nat.le_of_ble_eq_true rfl) (ao_hR hd (by decide)) (fun r σ' h => ?_)
  obtain ⟨h1, rfl⟩ := h
  cases h1
  refine ao_ishr dJ0_length_8abf5_9 ?_
  exact ao_ireturn dJ0_length_8abf5_10 rfl rfl ⟨by rw [sb_shr0], rfl⟩
theorem aJ_check3 {Γ : ao_C} (d : Nat) (x n : Int32) (v : Value) (hv : v = .null ∨ ∃ a, v = .ref a) (h0 : ¬ x < 0) (h1 : x < n) (σ : ao_S) : ao_A Γ uJ_check3 d 0 0 [.int x, .int n, v] σ (ao_PC σ x) := by
  have hvc : v.category = 1 := by rcases hv with rfl | ⟨a, rfl⟩ <;> rfl
  refine ao_of (by decide) (fun w hw => ?_) (Nat.le_of_ble_eq_true rfl) ?_
  · simp only [List.mem_cons, List.mem_nil_iff, or_false] at hw
    rcases hw with rfl | rfl | rfl
    · rfl
    · rfl
    · exact hvc
  show ao_W Γ uJ_check3 (ao_rm d 0 0) (ao_Q Γ (ao_PC σ x) 0 0) 0 0 0 [some (.int x), some (.int n), some v] [] σ
  refine ao_iload_n 0 dJ3_checkIndex_8e157_0 rfl rfl ?_
  refine ao_if_lt 9 dJ3_checkIndex_8e157_1 (by decide) (fun c => absurd c h0) (fun _ => ?_)
  refine ao_iload_n 0 dJ3_checkIndex_8e157_4 rfl rfl ?_
  refine ao_iload_n 1 dJ3_checkIndex_8e157_5 rfl rfl ?_
  refine ao_icmp_lt 16 dJ3_checkIndex_8e157_6 (by decide) (fun _ => ?_) (fun c => absurd h1 c)
  refine ao_iload_n 0 dJ3_checkIndex_8e157_16 rfl rfl ?_
  exact ao_ireturn dJ3_checkIndex_8e157_17 rfl rfl ⟨rfl, rfl⟩
theorem aJ_check {Γ : ao_C} (d : Nat) (hd : 1 ≤ d) (x n : Int32) (h0 : ¬ x < 0) (h1 : x < n) (σ : ao_S) : ao_A Γ uJ_check d 0 0 [.int x, .int n] σ (ao_PN σ) := by
  refine ao_of (by decide) (ao_cat1 (Nat.le_of_ble_eq_true rfl)) (Nat.le_of_ble_eq_true rfl) ?_
  show ao_W Γ uJ_check (ao_rm d 0 0) (ao_Q Γ (ao_PN σ) 0 0) 0 0 0 [some (.int x), some (.int n)] [] σ
  refine ao_iload_n 0 dJ0_checkIndex_df160_0 rfl rfl ?_
  refine ao_iload_n 1 dJ0_checkIndex_df160_1 rfl rfl ?_
  refine at_formatter dJ0_checkIndex_df160_2 lf_J0_1053 (fun v hv => ?_)
  refine ao_callS [.int x, .int n, v] (aJ_check3 (d - 1) x n v hv h0 h1 σ) ao_nxC dJ0_checkIndex_df160_5 lc_J0_1059 lt_J3_checkIndex_8e157 rfl rfl (Nat.le_of_ble_eq_true rfl) (ao_hR hd (by decide)) (Nat.zero_le _) (Nat.zero_le _) (fun r σ' h => ?_)
  obtain ⟨h2, rfl⟩ := h
  cases h2
  refine ao_pop dJ0_checkIndex_df160_8 rfl ?_
  exact ao_return dJ0_checkIndex_df160_9 rfl ⟨rfl, rfl⟩
def ao_chr (i : Nat) (x : Int32) : Int32 := (ao_byt.getD i []).getD x.toNatClampNeg 0 &&& 255
theorem at_i2c {Γ : ao_C} {μ : ao_Mi} {R : Room} {Q : List Frame → Array Value → State → State → Prop} {mc ms pc : Nat} {lo : List (Option Value)} {st : List Value} {σ : ao_S} {x : Int32} (hd : decode μ.2.1 pc = .ok (.i2c, 1)) (k : ao_W Γ μ R Q mc ms (pc + 1) lo (.int (x.toUInt32 % 65536).toInt32 :: st) σ) : ao_W Γ μ R Q mc ms pc lo (.int x :: st) σ :=
  ao_step (fun _ _ _ _ _ _ _ _ _ _ _ _ _ hX _ hl kk => lv_i2c hX.1 hX.2.1 hd rfl kk) k
theorem at_lt {x : Int32} {n : Nat} (hn : n < 2 ^ 31) (h : ¬ (x < 0 ∨ n ≤ x.toNatClampNeg)) : ¬ x < 0 ∧ x < nI n := by
  refine ⟨fun q => h (Or.inl q), ?_⟩
  have h0 : ¬ x < 0 := fun q => h (Or.inl q)
  obtain ⟨j, hj, rfl⟩ := nI_of h0
  rw [nI_clamp hj] at h
  exact nI_lt (by omega) hn
theorem at_len31 : ∀ i, i < 13 → ao_len.getD i 0 < 2 ^ 31 := by decide +kernel
theorem aJ_char1 {Γ : ao_C} (d : Nat) (hd : 2 ≤ d) (i : Nat) (hi : i < 13) (x : Int32) (hin : ¬ (x < 0 ∨ ao_len.getD i 0 ≤ x.toNatClampNeg)) (σ : ao_S) : ao_A Γ uJ_char1 d 0 0 [.ref (ao_tV Γ i), .int x] σ (ao_PC σ (ao_chr i x)) := by
  obtain ⟨h0, h1⟩ := at_lt (at_len31 i hi) hin
  refine ao_of (by decide) (ao_cat1 (Nat.le_of_ble_eq_true rfl)) (Nat.le_of_ble_eq_true rfl) ?_
  show ao_W Γ uJ_char1 (ao_rm d 0 0) (ao_Q Γ (ao_PC σ (ao_chr i x)) 0 0) 0 0 0 [some (.ref (ao_tV Γ i)), some (.int x)] [] σ
  refine ao_iload_n 1 dJ1_charAt_3b067_0 rfl rfl ?_
  refine ao_aload_n 0 dJ1_charAt_3b067_1 rfl rfl ?_
  refine at_alen i hi dJ1_charAt_3b067_2 ?_
  refine ao_callS [.int x, .int (nI (ao_len.getD i 0))] (aJ_check (d - 1) (by omega) x (nI (ao_len.getD i 0)) h0 h1 σ) ao_nxN dJ1_charAt_3b067_3 lc_J1_9 lt_J0_checkIndex_df160 rfl rfl (Nat.le_of_ble_eq_true rfl) (ao_hR (by omega) (by decide)) (Nat.zero_le _) (Nat.zero_le _) (fun r σ' h => ?_)
  obtain ⟨h2, rfl⟩ := h
  cases h2
  refine ao_aload_n 0 dJ1_charAt_3b067_6 rfl rfl ?_
  refine ao_iload_n 1 dJ1_charAt_3b067_7 rfl rfl ?_
  refine at_bald i hi hin dJ1_charAt_3b067_8 ?_
  refine ao_sipush (v := 255) dJ1_charAt_3b067_9 (by decide) ?_
  refine ao_iand dJ1_charAt_3b067_12 ?_
  refine at_i2c dJ1_charAt_3b067_13 ?_
  rw [sc_c2]
  exact ao_ireturn dJ1_charAt_3b067_14 rfl (sc_nar _) ⟨rfl, rfl⟩
theorem aJ_charAt {Γ : ao_C} (d : Nat) (hd : 3 ≤ d) (i : Nat) (hi : i < 13) (x : Int32) (hin : ¬ (x < 0 ∨ ao_len.getD i 0 ≤ x.toNatClampNeg)) (σ : ao_S) : ao_A Γ uJ_charAt d 0 0 [.ref (ao_tK Γ i), .int x] σ (ao_PC σ (ao_chr i x)) := by
  refine ao_of (by decide) (ao_cat1 (Nat.le_of_ble_eq_true rfl)) (Nat.le_of_ble_eq_true rfl) ?_
  show ao_W Γ uJ_charAt (ao_rm d 0 0) (ao_Q Γ (ao_PC σ (ao_chr i x)) 0 0) 0 0 0 [some (.ref (ao_tK Γ i)), some (.int x)] [] σ
  refine ao_aload_n 0 dJ0_charAt_5068e_0 rfl rfl ?_
  refine at_callV i hi [] (aJ_isLatin1 (d - 1) i hi σ) ao_nxC dJ0_charAt_5068e_1 lc_J0_492 li_J0_isLatin1_aae02 ls_J0_isLatin1_aae02 rfl rfl (Nat.le_of_ble_eq_true rfl) (ao_hR (by omega) (by decide)) (fun r σ' h => ?_)
  obtain ⟨h1, rfl⟩ := h
  cases h1
  refine ao_if_eq 16 dJ0_charAt_5068e_4 (by decide) (fun c => absurd c (by decide)) (fun _ => ?_)
  refine ao_aload_n 0 dJ0_charAt_5068e_7 rfl rfl ?_
  refine at_getf i hi (at_valueOF i hi) dJ0_charAt_5068e_8 lf_J0_9 ?_
  refine ao_iload_n 1 dJ0_charAt_5068e_11 rfl rfl ?_
  refine ao_callS [.ref (ao_tV Γ i), .int x] (aJ_char1 (d - 1) (by omega) i hi x hin σ') ao_nxC dJ0_charAt_5068e_12 lc_J0_495 lt_J1_charAt_3b067 rfl rfl (Nat.le_of_ble_eq_true rfl) (ao_hR (by omega) (by decide)) (Nat.zero_le _) (Nat.zero_le _) (fun r σ'' h => ?_)
  obtain ⟨h2, rfl⟩ := h
  cases h2
  exact ao_ireturn dJ0_charAt_5068e_15 rfl (sc_nar _) ⟨rfl, rfl⟩
section AoTy
variable {Γ : ao_C} {μ : ao_Mi} {R : Room} {Q : List Frame → Array Value → State → State → Prop} {mc ms pc : Nat} {lo : List (Option Value)} {st : List Value} {σ : ao_S}
theorem at_len (i : Nat) (hi : i < 13) {index d : Nat} (hd : decode μ.2.1 pc = .ok (.invokevirtual index, 3)) (hw : ao_cB μ.1.cls index yJ0_length_8abf5 cJ0_length_8abf5 1 (some .int) 0) (hrs : (st.map fun v => v.category).sum ≤ 8) (h1 : 1 ≤ d) (hRm : d + 1 ≤ R.frames ∧ 8 + (1 + 11) + 64 * d ≤ R.locals)
    (k : ao_W Γ μ R Q mc ms (pc + 3) lo (.int (nI (ao_len.getD i 0)) :: st) σ) : ao_W Γ μ R Q mc ms pc lo (.ref (ao_tK Γ i) :: st) σ :=
  at_callV i hi [] (aJ_length d h1 i hi σ) ao_nxC hd hw li_J0_length_8abf5 ls_J0_length_8abf5 rfl rfl hrs hRm (fun r σ' h => by
    obtain ⟨h1, rfl⟩ := h
    cases h1
    exact k)
theorem at_charAt (i : Nat) (hi : i < 13) {index d : Nat} {x : Int32} (hin : ¬ (x < 0 ∨ ao_len.getD i 0 ≤ x.toNatClampNeg)) (hd : decode μ.2.1 pc = .ok (.invokevirtual index, 3)) (hw : ao_cB μ.1.cls index yJ0_charAt_5068e cJ0_charAt_5068e 2 (some .char) 1) (hrs : (st.map fun v => v.category).sum ≤ 8) (h1 : 3 ≤ d) (hRm : d + 1 ≤ R.frames ∧ 8 + (2 + 11) + 64 * d ≤ R.locals)
    (k : ao_W Γ μ R Q mc ms (pc + 3) lo (.int (ao_chr i x) :: st) σ) : ao_W Γ μ R Q mc ms pc lo (.int x :: .ref (ao_tK Γ i) :: st) σ :=
  at_callV i hi [.int x] (aJ_charAt d h1 i hi x hin σ) ao_nxC hd hw li_J0_charAt_5068e ls_J0_charAt_5068e rfl rfl hrs hRm (fun r σ' h => by
    obtain ⟨h1, rfl⟩ := h
    cases h1
    exact k)
theorem at_ldc (i : Nat) {q : String × Nat × String} {index : Nat} (hq : ao_txt[i]? = some q) (hd : decode μ.2.1 pc = .ok (.ldc index, 2)) (hw : q.1 = μ.1.cls ∧ q.2.1 = index) (k : ao_W Γ μ R Q mc ms (pc + 2) lo (.ref (ao_tK Γ i) :: st) σ) : ao_W Γ μ R Q mc ms pc lo st σ :=
  fun p e s m args below meth c H locs cells slots ls hX hR hS hc hs hl => by
    have h := hX.2.2.2.2.2.2.2.2.2.2.2.2.2.2.1.2 i q hq
    rw [hw.1, hw.2] at h
    exact va_ldcS hX.1 hX.2.1 hX.2.2.2.2.2.2.1 h hd (k p e s m args below meth c H locs cells slots ls hX hR hS hc hs hl)
end AoTy
