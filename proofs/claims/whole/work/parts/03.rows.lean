/-! ===== rows: one instruction each ===== -/
section AoR
variable {Γ : ao_C} {μ : ao_Mi} {R : Room} {Q : List Frame → Array Value → State → State → Prop} {mc ms pc : Nat} {lo : List (Option Value)} {st : List Value} {σ : ao_S}
theorem ao_iconst {n : Int} {v : Int32} (hd : decode μ.2.1 pc = .ok (.iconst n, 1)) (hv : Int32.ofInt n = v) (k : ao_W Γ μ R Q mc ms (pc + 1) lo (.int v :: st) σ) : ao_W Γ μ R Q mc ms pc lo (st) σ :=
  ao_step (fun _ _ _ _ _ _ _ _ _ _ _ _ _ hX _ hl kk => lv_iconst hX.1 hX.2.1 hd hv kk) k
theorem ao_bipush {n : Int} {v : Int32} (hd : decode μ.2.1 pc = .ok (.bipush n, 2)) (hv : (Int8.ofInt n).toInt32 = v) (k : ao_W Γ μ R Q mc ms (pc + 2) lo (.int v :: st) σ) : ao_W Γ μ R Q mc ms pc lo (st) σ :=
  ao_step (fun _ _ _ _ _ _ _ _ _ _ _ _ _ hX _ hl kk => lv_bipush hX.1 hX.2.1 hd hv kk) k
theorem ao_sipush {n : Int} {v : Int32} (hd : decode μ.2.1 pc = .ok (.sipush n, 3)) (hv : (Int16.ofInt n).toInt32 = v) (k : ao_W Γ μ R Q mc ms (pc + 3) lo (.int v :: st) σ) : ao_W Γ μ R Q mc ms pc lo (st) σ :=
  ao_step (fun _ _ _ _ _ _ _ _ _ _ _ _ _ hX _ hl kk => lv_sipush hX.1 hX.2.1 hd hv kk) k
theorem ao_iload_n {j : Fin 4} (i : Nat) {x : Int32} (hd : decode μ.2.1 pc = .ok (.iload_n j, 1)) (hi : (j : Nat) = i) (h : lo[i]? = some (some (.int x))) (k : ao_W Γ μ R Q mc ms (pc + 1) lo (.int x :: st) σ) : ao_W Γ μ R Q mc ms pc lo (st) σ :=
  ao_step (fun _ _ _ _ _ _ _ _ _ _ _ _ _ hX _ hl kk => lv_iload_n hX.1 hX.2.1 hd hi (hl.2.2 i _ h).1 kk) k
theorem ao_iload (i : Nat) {x : Int32} (hd : decode μ.2.1 pc = .ok (.iload i, 2)) (h : lo[i]? = some (some (.int x))) (k : ao_W Γ μ R Q mc ms (pc + 2) lo (.int x :: st) σ) : ao_W Γ μ R Q mc ms pc lo (st) σ :=
  ao_step (fun _ _ _ _ _ _ _ _ _ _ _ _ _ hX _ hl kk => lv_iload hX.1 hX.2.1 hd (hl.2.2 i _ h).1 kk) k
theorem ao_aload_n {j : Fin 4} (i : Nat) {x : Nat} (hd : decode μ.2.1 pc = .ok (.aload_n j, 1)) (hi : (j : Nat) = i) (h : lo[i]? = some (some (.ref x))) (k : ao_W Γ μ R Q mc ms (pc + 1) lo (.ref x :: st) σ) : ao_W Γ μ R Q mc ms pc lo (st) σ :=
  ao_step (fun _ _ _ _ _ _ _ _ _ _ _ _ _ hX _ hl kk => lv_aload_n hX.1 hX.2.1 hd hi (hl.2.2 i _ h).1 kk) k
theorem ao_aload (i : Nat) {x : Nat} (hd : decode μ.2.1 pc = .ok (.aload i, 2)) (h : lo[i]? = some (some (.ref x))) (k : ao_W Γ μ R Q mc ms (pc + 2) lo (.ref x :: st) σ) : ao_W Γ μ R Q mc ms pc lo (st) σ :=
  ao_step (fun _ _ _ _ _ _ _ _ _ _ _ _ _ hX _ hl kk => lv_aload hX.1 hX.2.1 hd (hl.2.2 i _ h).1 kk) k
theorem ao_iadd {x y : Int32} (hd : decode μ.2.1 pc = .ok (.iadd, 1)) (k : ao_W Γ μ R Q mc ms (pc + 1) lo (.int (x + y) :: st) σ) : ao_W Γ μ R Q mc ms pc lo (.int y :: .int x :: st) σ :=
  ao_step (fun _ _ _ _ _ _ _ _ _ _ _ _ _ hX _ hl kk => lv_iadd hX.1 hX.2.1 hd kk) k
theorem ao_isub {x y : Int32} (hd : decode μ.2.1 pc = .ok (.isub, 1)) (k : ao_W Γ μ R Q mc ms (pc + 1) lo (.int (x - y) :: st) σ) : ao_W Γ μ R Q mc ms pc lo (.int y :: .int x :: st) σ :=
  ao_step (fun _ _ _ _ _ _ _ _ _ _ _ _ _ hX _ hl kk => lv_isub hX.1 hX.2.1 hd kk) k
theorem ao_imul {x y : Int32} (hd : decode μ.2.1 pc = .ok (.imul, 1)) (k : ao_W Γ μ R Q mc ms (pc + 1) lo (.int (x * y) :: st) σ) : ao_W Γ μ R Q mc ms pc lo (.int y :: .int x :: st) σ :=
  ao_step (fun _ _ _ _ _ _ _ _ _ _ _ _ _ hX _ hl kk => lv_imul hX.1 hX.2.1 hd kk) k
theorem ao_iand {x y : Int32} (hd : decode μ.2.1 pc = .ok (.iand, 1)) (k : ao_W Γ μ R Q mc ms (pc + 1) lo (.int (x &&& y) :: st) σ) : ao_W Γ μ R Q mc ms pc lo (.int y :: .int x :: st) σ :=
  ao_step (fun _ _ _ _ _ _ _ _ _ _ _ _ _ hX _ hl kk => lv_iand hX.1 hX.2.1 hd kk) k
theorem ao_ior {x y : Int32} (hd : decode μ.2.1 pc = .ok (.ior, 1)) (k : ao_W Γ μ R Q mc ms (pc + 1) lo (.int (x ||| y) :: st) σ) : ao_W Γ μ R Q mc ms pc lo (.int y :: .int x :: st) σ :=
  ao_step (fun _ _ _ _ _ _ _ _ _ _ _ _ _ hX _ hl kk => lv_ior hX.1 hX.2.1 hd kk) k
theorem ao_ixor {x y : Int32} (hd : decode μ.2.1 pc = .ok (.ixor, 1)) (k : ao_W Γ μ R Q mc ms (pc + 1) lo (.int (x ^^^ y) :: st) σ) : ao_W Γ μ R Q mc ms pc lo (.int y :: .int x :: st) σ :=
  ao_step (fun _ _ _ _ _ _ _ _ _ _ _ _ _ hX _ hl kk => lv_ixor hX.1 hX.2.1 hd kk) k
theorem ao_ishl {x y : Int32} (hd : decode μ.2.1 pc = .ok (.ishl, 1)) (k : ao_W Γ μ R Q mc ms (pc + 1) lo (.int (x <<< (y &&& 31)) :: st) σ) : ao_W Γ μ R Q mc ms pc lo (.int y :: .int x :: st) σ :=
  ao_step (fun _ _ _ _ _ _ _ _ _ _ _ _ _ hX _ hl kk => lv_ishl hX.1 hX.2.1 hd kk) k
theorem ao_ishr {x y : Int32} (hd : decode μ.2.1 pc = .ok (.ishr, 1)) (k : ao_W Γ μ R Q mc ms (pc + 1) lo (.int (x >>> (y &&& 31)) :: st) σ) : ao_W Γ μ R Q mc ms pc lo (.int y :: .int x :: st) σ :=
  ao_step (fun _ _ _ _ _ _ _ _ _ _ _ _ _ hX _ hl kk => lv_ishr hX.1 hX.2.1 hd kk) k
theorem ao_idiv {x y : Int32} (hd : decode μ.2.1 pc = .ok (.idiv, 1)) (hn : ¬ y = 0) (k : ao_W Γ μ R Q mc ms (pc + 1) lo (.int (x / y) :: st) σ) : ao_W Γ μ R Q mc ms pc lo (.int y :: .int x :: st) σ :=
  ao_step (fun _ _ _ _ _ _ _ _ _ _ _ _ _ hX _ hl kk => lv_idiv hX.1 hX.2.1 hd hn kk) k
theorem ao_irem {x y : Int32} (hd : decode μ.2.1 pc = .ok (.irem, 1)) (hn : ¬ y = 0) (k : ao_W Γ μ R Q mc ms (pc + 1) lo (.int (x - x / y * y) :: st) σ) : ao_W Γ μ R Q mc ms pc lo (.int y :: .int x :: st) σ :=
  ao_step (fun _ _ _ _ _ _ _ _ _ _ _ _ _ hX _ hl kk => lv_irem hX.1 hX.2.1 hd hn kk) k
theorem ao_ineg {x : Int32} (hd : decode μ.2.1 pc = .ok (.ineg, 1)) (k : ao_W Γ μ R Q mc ms (pc + 1) lo (.int (-x) :: st) σ) : ao_W Γ μ R Q mc ms pc lo (.int x :: st) σ :=
  ao_step (fun _ _ _ _ _ _ _ _ _ _ _ _ _ hX _ hl kk => lv_ineg hX.1 hX.2.1 hd kk) k
theorem ao_i2l {x : Int32} (hd : decode μ.2.1 pc = .ok (.i2l, 1)) (k : ao_W Γ μ R Q mc ms (pc + 1) lo (.long x.toInt64 :: st) σ) : ao_W Γ μ R Q mc ms pc lo (.int x :: st) σ :=
  ao_step (fun _ _ _ _ _ _ _ _ _ _ _ _ _ hX _ hl kk => lv_i2l hX.1 hX.2.1 hd rfl kk) k
theorem ao_i2b {x : Int32} (hd : decode μ.2.1 pc = .ok (.i2b, 1)) (k : ao_W Γ μ R Q mc ms (pc + 1) lo (.int x.toInt8.toInt32 :: st) σ) : ao_W Γ μ R Q mc ms pc lo (.int x :: st) σ :=
  ao_step (fun _ _ _ _ _ _ _ _ _ _ _ _ _ hX _ hl kk => lv_i2b hX.1 hX.2.1 hd rfl kk) k
theorem ao_dup {v : Value} (hd : decode μ.2.1 pc = .ok (.dup, 1)) (hv : v.category = 1) (k : ao_W Γ μ R Q mc ms (pc + 1) lo (v :: v :: st) σ) : ao_W Γ μ R Q mc ms pc lo (v :: st) σ :=
  ao_step (fun _ _ _ _ _ _ _ _ _ _ _ _ _ hX _ hl kk => lv_dup hX.1 hX.2.1 hd hv kk) k
theorem ao_pop {v : Value} (hd : decode μ.2.1 pc = .ok (.pop, 1)) (hv : v.category = 1) (k : ao_W Γ μ R Q mc ms (pc + 1) lo (st) σ) : ao_W Γ μ R Q mc ms pc lo (v :: st) σ :=
  ao_step (fun _ _ _ _ _ _ _ _ _ _ _ _ _ hX _ hl kk => lv_pop hX.1 hX.2.1 hd hv kk) k
theorem ao_dup2 {v w : Value} (hd : decode μ.2.1 pc = .ok (.dup2, 1)) (hv : v.category = 1) (hw : w.category = 1) (k : ao_W Γ μ R Q mc ms (pc + 1) lo (v :: w :: v :: w :: st) σ) : ao_W Γ μ R Q mc ms pc lo (v :: w :: st) σ :=
  ao_step (fun _ _ _ _ _ _ _ _ _ _ _ _ _ hX _ hl kk => lv_dup2_11 hX.1 hX.2.1 hd hv hw kk) k
theorem ao_lcmp {x y : Int64} (hd : decode μ.2.1 pc = .ok (.lcmp, 1)) (k : ao_W Γ μ R Q mc ms (pc + 1) lo (.int (lg_cmp x y) :: st) σ) : ao_W Γ μ R Q mc ms pc lo (.long y :: .long x :: st) σ :=
  ao_step (fun _ _ _ _ _ _ _ _ _ _ _ _ _ hX _ hl kk => W.lcmp hX.1 hX.2.1 hd kk) k
theorem ao_if_eq {x : Int32} {off : Int} (tgt : Nat) (hd : decode μ.2.1 pc = .ok (.ifCond .eq off, 3)) (ht : (pc : Int) + off = (tgt : Int)) (kt : x = 0 → ao_W Γ μ R Q mc ms tgt lo st σ) (kf : ¬ x = 0 → ao_W Γ μ R Q mc ms (pc + 3) lo st σ) : ao_W Γ μ R Q mc ms pc lo (.int x :: st) σ :=
  fun p e s m args below meth c H locs cells slots ls hX hR hS hc hs hl => lv_if_eq hX.1 hX.2.1 hd ht (fun h => kt h p e s m args below meth c H locs cells slots ls hX hR hS hc hs hl) (fun h => kf h p e s m args below meth c H locs cells slots ls hX hR hS hc hs hl)
theorem ao_if_ne {x : Int32} {off : Int} (tgt : Nat) (hd : decode μ.2.1 pc = .ok (.ifCond .ne off, 3)) (ht : (pc : Int) + off = (tgt : Int)) (kt : ¬ x = 0 → ao_W Γ μ R Q mc ms tgt lo st σ) (kf : x = 0 → ao_W Γ μ R Q mc ms (pc + 3) lo st σ) : ao_W Γ μ R Q mc ms pc lo (.int x :: st) σ :=
  fun p e s m args below meth c H locs cells slots ls hX hR hS hc hs hl => lv_if_ne hX.1 hX.2.1 hd ht (fun h => kt h p e s m args below meth c H locs cells slots ls hX hR hS hc hs hl) (fun h => kf h p e s m args below meth c H locs cells slots ls hX hR hS hc hs hl)
theorem ao_if_lt {x : Int32} {off : Int} (tgt : Nat) (hd : decode μ.2.1 pc = .ok (.ifCond .lt off, 3)) (ht : (pc : Int) + off = (tgt : Int)) (kt : x < 0 → ao_W Γ μ R Q mc ms tgt lo st σ) (kf : ¬ x < 0 → ao_W Γ μ R Q mc ms (pc + 3) lo st σ) : ao_W Γ μ R Q mc ms pc lo (.int x :: st) σ :=
  fun p e s m args below meth c H locs cells slots ls hX hR hS hc hs hl => lv_if_lt hX.1 hX.2.1 hd ht (fun h => kt h p e s m args below meth c H locs cells slots ls hX hR hS hc hs hl) (fun h => kf h p e s m args below meth c H locs cells slots ls hX hR hS hc hs hl)
theorem ao_if_ge {x : Int32} {off : Int} (tgt : Nat) (hd : decode μ.2.1 pc = .ok (.ifCond .ge off, 3)) (ht : (pc : Int) + off = (tgt : Int)) (kt : 0 ≤ x → ao_W Γ μ R Q mc ms tgt lo st σ) (kf : ¬ 0 ≤ x → ao_W Γ μ R Q mc ms (pc + 3) lo st σ) : ao_W Γ μ R Q mc ms pc lo (.int x :: st) σ :=
  fun p e s m args below meth c H locs cells slots ls hX hR hS hc hs hl => lv_if_ge hX.1 hX.2.1 hd ht (fun h => kt h p e s m args below meth c H locs cells slots ls hX hR hS hc hs hl) (fun h => kf h p e s m args below meth c H locs cells slots ls hX hR hS hc hs hl)
theorem ao_if_gt {x : Int32} {off : Int} (tgt : Nat) (hd : decode μ.2.1 pc = .ok (.ifCond .gt off, 3)) (ht : (pc : Int) + off = (tgt : Int)) (kt : 0 < x → ao_W Γ μ R Q mc ms tgt lo st σ) (kf : ¬ 0 < x → ao_W Γ μ R Q mc ms (pc + 3) lo st σ) : ao_W Γ μ R Q mc ms pc lo (.int x :: st) σ :=
  fun p e s m args below meth c H locs cells slots ls hX hR hS hc hs hl => lv_if_gt hX.1 hX.2.1 hd ht (fun h => kt h p e s m args below meth c H locs cells slots ls hX hR hS hc hs hl) (fun h => kf h p e s m args below meth c H locs cells slots ls hX hR hS hc hs hl)
theorem ao_if_le {x : Int32} {off : Int} (tgt : Nat) (hd : decode μ.2.1 pc = .ok (.ifCond .le off, 3)) (ht : (pc : Int) + off = (tgt : Int)) (kt : x ≤ 0 → ao_W Γ μ R Q mc ms tgt lo st σ) (kf : ¬ x ≤ 0 → ao_W Γ μ R Q mc ms (pc + 3) lo st σ) : ao_W Γ μ R Q mc ms pc lo (.int x :: st) σ :=
  fun p e s m args below meth c H locs cells slots ls hX hR hS hc hs hl => lv_if_le hX.1 hX.2.1 hd ht (fun h => kt h p e s m args below meth c H locs cells slots ls hX hR hS hc hs hl) (fun h => kf h p e s m args below meth c H locs cells slots ls hX hR hS hc hs hl)
theorem ao_icmp_eq {x y : Int32} {off : Int} (tgt : Nat) (hd : decode μ.2.1 pc = .ok (.if_icmp .eq off, 3)) (ht : (pc : Int) + off = (tgt : Int)) (kt : x = y → ao_W Γ μ R Q mc ms tgt lo st σ) (kf : ¬ x = y → ao_W Γ μ R Q mc ms (pc + 3) lo st σ) : ao_W Γ μ R Q mc ms pc lo (.int y :: .int x :: st) σ :=
  fun p e s m args below meth c H locs cells slots ls hX hR hS hc hs hl => lv_icmp_eq hX.1 hX.2.1 hd ht (fun h => kt h p e s m args below meth c H locs cells slots ls hX hR hS hc hs hl) (fun h => kf h p e s m args below meth c H locs cells slots ls hX hR hS hc hs hl)
theorem ao_icmp_ne {x y : Int32} {off : Int} (tgt : Nat) (hd : decode μ.2.1 pc = .ok (.if_icmp .ne off, 3)) (ht : (pc : Int) + off = (tgt : Int)) (kt : ¬ x = y → ao_W Γ μ R Q mc ms tgt lo st σ) (kf : x = y → ao_W Γ μ R Q mc ms (pc + 3) lo st σ) : ao_W Γ μ R Q mc ms pc lo (.int y :: .int x :: st) σ :=
  fun p e s m args below meth c H locs cells slots ls hX hR hS hc hs hl => lv_icmp_ne hX.1 hX.2.1 hd ht (fun h => kt h p e s m args below meth c H locs cells slots ls hX hR hS hc hs hl) (fun h => kf h p e s m args below meth c H locs cells slots ls hX hR hS hc hs hl)
theorem ao_icmp_lt {x y : Int32} {off : Int} (tgt : Nat) (hd : decode μ.2.1 pc = .ok (.if_icmp .lt off, 3)) (ht : (pc : Int) + off = (tgt : Int)) (kt : x < y → ao_W Γ μ R Q mc ms tgt lo st σ) (kf : ¬ x < y → ao_W Γ μ R Q mc ms (pc + 3) lo st σ) : ao_W Γ μ R Q mc ms pc lo (.int y :: .int x :: st) σ :=
  fun p e s m args below meth c H locs cells slots ls hX hR hS hc hs hl => lv_icmp_lt hX.1 hX.2.1 hd ht (fun h => kt h p e s m args below meth c H locs cells slots ls hX hR hS hc hs hl) (fun h => kf h p e s m args below meth c H locs cells slots ls hX hR hS hc hs hl)
theorem ao_icmp_ge {x y : Int32} {off : Int} (tgt : Nat) (hd : decode μ.2.1 pc = .ok (.if_icmp .ge off, 3)) (ht : (pc : Int) + off = (tgt : Int)) (kt : y ≤ x → ao_W Γ μ R Q mc ms tgt lo st σ) (kf : ¬ y ≤ x → ao_W Γ μ R Q mc ms (pc + 3) lo st σ) : ao_W Γ μ R Q mc ms pc lo (.int y :: .int x :: st) σ :=
  fun p e s m args below meth c H locs cells slots ls hX hR hS hc hs hl => lv_icmp_ge hX.1 hX.2.1 hd ht (fun h => kt h p e s m args below meth c H locs cells slots ls hX hR hS hc hs hl) (fun h => kf h p e s m args below meth c H locs cells slots ls hX hR hS hc hs hl)
theorem ao_icmp_gt {x y : Int32} {off : Int} (tgt : Nat) (hd : decode μ.2.1 pc = .ok (.if_icmp .gt off, 3)) (ht : (pc : Int) + off = (tgt : Int)) (kt : y < x → ao_W Γ μ R Q mc ms tgt lo st σ) (kf : ¬ y < x → ao_W Γ μ R Q mc ms (pc + 3) lo st σ) : ao_W Γ μ R Q mc ms pc lo (.int y :: .int x :: st) σ :=
  fun p e s m args below meth c H locs cells slots ls hX hR hS hc hs hl => lv_icmp_gt hX.1 hX.2.1 hd ht (fun h => kt h p e s m args below meth c H locs cells slots ls hX hR hS hc hs hl) (fun h => kf h p e s m args below meth c H locs cells slots ls hX hR hS hc hs hl)
theorem ao_icmp_le {x y : Int32} {off : Int} (tgt : Nat) (hd : decode μ.2.1 pc = .ok (.if_icmp .le off, 3)) (ht : (pc : Int) + off = (tgt : Int)) (kt : x ≤ y → ao_W Γ μ R Q mc ms tgt lo st σ) (kf : ¬ x ≤ y → ao_W Γ μ R Q mc ms (pc + 3) lo st σ) : ao_W Γ μ R Q mc ms pc lo (.int y :: .int x :: st) σ :=
  fun p e s m args below meth c H locs cells slots ls hX hR hS hc hs hl => lv_icmp_le hX.1 hX.2.1 hd ht (fun h => kt h p e s m args below meth c H locs cells slots ls hX hR hS hc hs hl) (fun h => kf h p e s m args below meth c H locs cells slots ls hX hR hS hc hs hl)
theorem ao_goto {off : Int} (tgt : Nat) (hd : decode μ.2.1 pc = .ok (.goto off, 3)) (ht : (pc : Int) + off = (tgt : Int)) (k : ao_W Γ μ R Q mc ms tgt lo st σ) : ao_W Γ μ R Q mc ms pc lo st σ :=
  ao_step (fun _ _ _ _ _ _ _ _ _ _ _ _ _ hX _ hl kk => lv_goto hX.1 hX.2.1 hd ht kk) k
theorem ao_tableIn {dflt l0 h0 : Int} {offs : Array Int} {len : Nat} {x : Int32} {off : Int} (tgt : Nat) (hd : decode μ.2.1 pc = .ok (.tableswitch dflt l0 h0 offs, len)) (h1 : ¬ x.toInt < l0) (h2 : ¬ h0 < x.toInt) (ho : offs[(x.toInt - l0).toNat]? = some off) (ht : (pc : Int) + off = (tgt : Int)) (k : ao_W Γ μ R Q mc ms tgt lo st σ) : ao_W Γ μ R Q mc ms pc lo (.int x :: st) σ :=
  ao_step (fun _ _ _ _ _ _ _ _ _ _ _ _ _ hX _ hl kk => lv_tableIn hX.1 hX.2.1 hd h1 h2 ho ht kk) k
theorem ao_tableOut {dflt l0 h0 : Int} {offs : Array Int} {len : Nat} {x : Int32} (tgt : Nat) (hd : decode μ.2.1 pc = .ok (.tableswitch dflt l0 h0 offs, len)) (h : x.toInt < l0 ∨ h0 < x.toInt) (ht : (pc : Int) + dflt = (tgt : Int)) (k : ao_W Γ μ R Q mc ms tgt lo st σ) : ao_W Γ μ R Q mc ms pc lo (.int x :: st) σ :=
  ao_step (fun _ _ _ _ _ _ _ _ _ _ _ _ _ hX _ hl kk => lv_tableOut hX.1 hX.2.1 hd h ht kk) k
theorem ao_lookup {dflt : Int} {ps : Array (Int × Int)} {len : Nat} {x : Int32} {off : Int} (tgt : Nat) (hd : decode μ.2.1 pc = .ok (.lookupswitch dflt ps, len)) (hp : (ps.toList.zip (ps.toList.drop 1)).all (fun (a, next) => a.1 < next.1) = true) (ho : Op.lookupswitch.offset ps.toList dflt x.toInt = off) (ht : (pc : Int) + off = (tgt : Int)) (k : ao_W Γ μ R Q mc ms tgt lo st σ) : ao_W Γ μ R Q mc ms pc lo (.int x :: st) σ :=
  ao_step (fun _ _ _ _ _ _ _ _ _ _ _ _ _ hX _ hl kk => lv_lookup hX.1 hX.2.1 hd hp ho ht kk) k
theorem ao_ldc {index : Nat} {v : Int32} (hd : decode μ.2.1 pc = .ok (.ldc index, 2)) (hw : Cond.constant μ.1.cls index v ∈ ao_G) (k : ao_W Γ μ R Q mc ms (pc + 2) lo (.int v :: st) σ) : ao_W Γ μ R Q mc ms pc lo st σ :=
  ao_step (fun _ _ _ _ _ _ _ _ _ _ _ _ _ hX _ hl kk => lv_ldc hX.1 hX.2.1 hX.2.2.2.2.2.2.1 (hX.2.2.2.2.2.2.2.1 _ hw) hd kk) k
def ao_al (lo : List (Option Value)) : List (Nat × Value) := (List.range lo.length).filterMap fun i => (lo[i]?.join).map fun v => (i, v)
theorem ao_al_mem {lo : List (Option Value)} {i : Nat} {v : Value} : (i, v) ∈ ao_al lo ↔ lo[i]? = some (some v) := by
  unfold ao_al
  rw [List.mem_filterMap]
  constructor
  · rintro ⟨j, -, h⟩
    cases hj : lo[j]? with
    | none => simp [hj] at h
    | some o =>
      cases o with
      | none => simp [hj] at h
      | some w =>
        simp only [hj, Option.join_some, Option.map_some, Option.some.injEq, Prod.mk.injEq] at h
        obtain ⟨rfl, rfl⟩ := h
        exact hj
  · intro h
    have hi : i < lo.length := (List.getElem?_eq_some_iff.mp h).1
    exact ⟨i, List.mem_range.mpr hi, by rw [h]; rfl⟩
theorem ao_lo_has {ls : Array Slot} {nL : Nat} {lo : List (Option Value)} (h : ao_lo ls nL lo) : lv_has ls nL (ao_al lo) := ⟨h.1, h.2.1, fun q hq => (h.2.2 q.1 q.2 (ao_al_mem.mp hq)).1⟩
theorem ao_lo_set {ls ls' : Array Slot} {nL i : Nat} {v : Value} {lo : List (Option Value)} (h : ao_lo ls nL lo) (hv : v.category = 1) (h' : lv_has ls' nL ((i, v) :: (ao_al lo).filter (fun q => !(q.1 == i) && !(q.1 + 1 == i && q.2.category == 2)))) : ao_lo ls' nL (lo.set i (some v)) := by
  refine ⟨h'.1, h'.2.1, fun j w hj => ?_⟩
  by_cases e : j = i
  · subst e
    rw [List.getElem?_set_self' ] at hj
    cases hl : lo[j]? with
    | none => simp [hl] at hj
    | some o =>
      simp only [hl, Option.map_eq_map, Option.map_some, Function.const, Option.some.injEq] at hj
      cases hj
      exact ⟨h'.2.2 (j, v) List.mem_cons_self, hv⟩
  · rw [List.getElem?_set_ne (fun q => e q.symm)] at hj
    have hc := (h.2.2 j w hj).2
    refine ⟨h'.2.2 (j, w) (List.mem_cons_of_mem _ (List.mem_filter.mpr ⟨ao_al_mem.mpr hj, ?_⟩)), hc⟩
    have e2 : ¬ w.category = 2 := by omega
    simp [e, e2]
theorem ao_istore_n {j : Fin 4} (i : Nat) {x : Int32} {lo' : List (Option Value)} (hd : decode μ.2.1 pc = .ok (.istore_n j, 1)) (hi : (j : Nat) = i) (hn : i < μ.2.2.1) (h : lo.set i (some (.int x)) = lo') (k : ao_W Γ μ R Q mc ms (pc + 1) lo' st σ) : ao_W Γ μ R Q mc ms pc lo (.int x :: st) σ := by
  subst h
  intro p e s m args below meth c H locs cells slots ls hX hR hS hc hs hl
  exact lv_istore_n hX.1 hX.2.1 hd hi (ao_lo_has hl) hn rfl (fun ls' h' => k p e s m args below meth c H locs cells slots ls' hX hR hS hc hs (ao_lo_set hl rfl h'))
theorem ao_istore (i : Nat) {x : Int32} {lo' : List (Option Value)} (hd : decode μ.2.1 pc = .ok (.istore i, 2)) (hn : i < μ.2.2.1) (h : lo.set i (some (.int x)) = lo') (k : ao_W Γ μ R Q mc ms (pc + 2) lo' st σ) : ao_W Γ μ R Q mc ms pc lo (.int x :: st) σ := by
  subst h
  intro p e s m args below meth c H locs cells slots ls hX hR hS hc hs hl
  exact lv_istore hX.1 hX.2.1 hd (ao_lo_has hl) hn rfl (fun ls' h' => k p e s m args below meth c H locs cells slots ls' hX hR hS hc hs (ao_lo_set hl rfl h'))
theorem ao_astore_n {j : Fin 4} (i : Nat) {x : Nat} {lo' : List (Option Value)} (hd : decode μ.2.1 pc = .ok (.astore_n j, 1)) (hi : (j : Nat) = i) (hn : i < μ.2.2.1) (h : lo.set i (some (.ref x)) = lo') (k : ao_W Γ μ R Q mc ms (pc + 1) lo' st σ) : ao_W Γ μ R Q mc ms pc lo (.ref x :: st) σ := by
  subst h
  intro p e s m args below meth c H locs cells slots ls hX hR hS hc hs hl
  exact lv_astore_n hX.1 hX.2.1 hd hi (ao_lo_has hl) hn rfl (fun ls' h' => k p e s m args below meth c H locs cells slots ls' hX hR hS hc hs (ao_lo_set hl rfl h'))
theorem ao_astore (i : Nat) {x : Nat} {lo' : List (Option Value)} (hd : decode μ.2.1 pc = .ok (.astore i, 2)) (hn : i < μ.2.2.1) (h : lo.set i (some (.ref x)) = lo') (k : ao_W Γ μ R Q mc ms (pc + 2) lo' st σ) : ao_W Γ μ R Q mc ms pc lo (.ref x :: st) σ := by
  subst h
  intro p e s m args below meth c H locs cells slots ls hX hR hS hc hs hl
  exact lv_astore hX.1 hX.2.1 hd (ao_lo_has hl) hn rfl (fun ls' h' => k p e s m args below meth c H locs cells slots ls' hX hR hS hc hs (ao_lo_set hl rfl h'))
theorem ao_iinc (i : Nat) {n : Int} {x v : Int32} {lo' : List (Option Value)} (hd : decode μ.2.1 pc = .ok (.iinc i n, 3)) (hx : lo[i]? = some (some (.int x))) (hv : x + Int32.ofInt n = v) (hn : i < μ.2.2.1) (h : lo.set i (some (.int v)) = lo') (k : ao_W Γ μ R Q mc ms (pc + 3) lo' st σ) : ao_W Γ μ R Q mc ms pc lo st σ := by
  subst h
  intro p e s m args below meth c H locs cells slots ls hX hR hS hc hs hl
  obtain ⟨j, hj⟩ := List.getElem?_of_mem (ao_al_mem.mpr hx)
  exact lv_iinc hX.1 hX.2.1 hd (ao_lo_has hl) (k := j) hj hv hn rfl (fun ls' h' => k p e s m args below meth c H locs cells slots ls' hX hR hS hc hs (ao_lo_set hl rfl h'))
/-- locals that are no longer used may be forgotten -/
theorem ao_loForget {lo' : List (Option Value)} (h : ∀ (i : Nat) (v : Value), lo'[i]? = some (some v) → lo[i]? = some (some v)) (k : ao_W Γ μ R Q mc ms pc lo' st σ) : ao_W Γ μ R Q mc ms pc lo st σ :=
  fun p e s m args below meth c H locs cells slots ls hX hR hS hc hs hl => k p e s m args below meth c H locs cells slots ls hX hR hS hc hs ⟨hl.1, hl.2.1, fun i v hi => hl.2.2 i v (h i v hi)⟩
/-- less room than there is -/
theorem ao_less {mc' ms' : Nat} (h1 : mc' ≤ mc) (h2 : ms' ≤ ms) (k : ao_W Γ μ R Q mc' ms' pc lo st σ) : ao_W Γ μ R Q mc ms pc lo st σ :=
  fun p e s m args below meth c H locs cells slots ls hX hR hS hc hs hl => k p e s m args below meth c H locs cells slots ls hX hR hS (by omega) (by omega) hl
end AoR
