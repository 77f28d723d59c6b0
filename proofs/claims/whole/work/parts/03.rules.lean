section XR
variable {G : xG} {l : Launch} {M : xM} {d : Nat} {Z : List Frame → Array Value → State → Nat → Nat → State → Prop} {k n pc pc2 : Nat} {L : xL} {st : List Value} {h : xH}
theorem x_iadd {x y : Int32} (hd : decode M.2.1 pc = .ok (.iadd, 1)) (hp : pc + 1 = pc2) (kk : xWP G l M d Z k n pc2 L (.int (x + y) :: st) h) : xWP G l M d Z k n pc L (.int y :: .int x :: st) h := by
  intro p e R s m args below meth c H locs cells slots mc ms ls hO hR hS hk hn hl
  subst hp
  exact lv_iadd hO.1 hO.2.1 hd (kk p e R s m args below meth c H locs cells slots mc ms ls hO hR hS hk hn hl)
theorem x_isub {x y : Int32} (hd : decode M.2.1 pc = .ok (.isub, 1)) (hp : pc + 1 = pc2) (kk : xWP G l M d Z k n pc2 L (.int (x - y) :: st) h) : xWP G l M d Z k n pc L (.int y :: .int x :: st) h := by
  intro p e R s m args below meth c H locs cells slots mc ms ls hO hR hS hk hn hl
  subst hp
  exact lv_isub hO.1 hO.2.1 hd (kk p e R s m args below meth c H locs cells slots mc ms ls hO hR hS hk hn hl)
theorem x_imul {x y : Int32} (hd : decode M.2.1 pc = .ok (.imul, 1)) (hp : pc + 1 = pc2) (kk : xWP G l M d Z k n pc2 L (.int (x * y) :: st) h) : xWP G l M d Z k n pc L (.int y :: .int x :: st) h := by
  intro p e R s m args below meth c H locs cells slots mc ms ls hO hR hS hk hn hl
  subst hp
  exact lv_imul hO.1 hO.2.1 hd (kk p e R s m args below meth c H locs cells slots mc ms ls hO hR hS hk hn hl)
theorem x_iand {x y : Int32} (hd : decode M.2.1 pc = .ok (.iand, 1)) (hp : pc + 1 = pc2) (kk : xWP G l M d Z k n pc2 L (.int (x &&& y) :: st) h) : xWP G l M d Z k n pc L (.int y :: .int x :: st) h := by
  intro p e R s m args below meth c H locs cells slots mc ms ls hO hR hS hk hn hl
  subst hp
  exact lv_iand hO.1 hO.2.1 hd (kk p e R s m args below meth c H locs cells slots mc ms ls hO hR hS hk hn hl)
theorem x_ior {x y : Int32} (hd : decode M.2.1 pc = .ok (.ior, 1)) (hp : pc + 1 = pc2) (kk : xWP G l M d Z k n pc2 L (.int (x ||| y) :: st) h) : xWP G l M d Z k n pc L (.int y :: .int x :: st) h := by
  intro p e R s m args below meth c H locs cells slots mc ms ls hO hR hS hk hn hl
  subst hp
  exact lv_ior hO.1 hO.2.1 hd (kk p e R s m args below meth c H locs cells slots mc ms ls hO hR hS hk hn hl)
theorem x_ixor {x y : Int32} (hd : decode M.2.1 pc = .ok (.ixor, 1)) (hp : pc + 1 = pc2) (kk : xWP G l M d Z k n pc2 L (.int (x ^^^ y) :: st) h) : xWP G l M d Z k n pc L (.int y :: .int x :: st) h := by
  intro p e R s m args below meth c H locs cells slots mc ms ls hO hR hS hk hn hl
  subst hp
  exact lv_ixor hO.1 hO.2.1 hd (kk p e R s m args below meth c H locs cells slots mc ms ls hO hR hS hk hn hl)
theorem x_ladd {x y : Int64} (hd : decode M.2.1 pc = .ok (.ladd, 1)) (hp : pc + 1 = pc2) (kk : xWP G l M d Z k n pc2 L (.long (x + y) :: st) h) : xWP G l M d Z k n pc L (.long y :: .long x :: st) h := by
  intro p e R s m args below meth c H locs cells slots mc ms ls hO hR hS hk hn hl
  subst hp
  exact lv_ladd hO.1 hO.2.1 hd (kk p e R s m args below meth c H locs cells slots mc ms ls hO hR hS hk hn hl)
theorem x_lsub {x y : Int64} (hd : decode M.2.1 pc = .ok (.lsub, 1)) (hp : pc + 1 = pc2) (kk : xWP G l M d Z k n pc2 L (.long (x - y) :: st) h) : xWP G l M d Z k n pc L (.long y :: .long x :: st) h := by
  intro p e R s m args below meth c H locs cells slots mc ms ls hO hR hS hk hn hl
  subst hp
  exact lv_lsub hO.1 hO.2.1 hd (kk p e R s m args below meth c H locs cells slots mc ms ls hO hR hS hk hn hl)
theorem x_lmul {x y : Int64} (hd : decode M.2.1 pc = .ok (.lmul, 1)) (hp : pc + 1 = pc2) (kk : xWP G l M d Z k n pc2 L (.long (x * y) :: st) h) : xWP G l M d Z k n pc L (.long y :: .long x :: st) h := by
  intro p e R s m args below meth c H locs cells slots mc ms ls hO hR hS hk hn hl
  subst hp
  exact lv_lmul hO.1 hO.2.1 hd (kk p e R s m args below meth c H locs cells slots mc ms ls hO hR hS hk hn hl)
theorem x_land {x y : Int64} (hd : decode M.2.1 pc = .ok (.land, 1)) (hp : pc + 1 = pc2) (kk : xWP G l M d Z k n pc2 L (.long (x &&& y) :: st) h) : xWP G l M d Z k n pc L (.long y :: .long x :: st) h := by
  intro p e R s m args below meth c H locs cells slots mc ms ls hO hR hS hk hn hl
  subst hp
  exact lv_land hO.1 hO.2.1 hd (kk p e R s m args below meth c H locs cells slots mc ms ls hO hR hS hk hn hl)
theorem x_lor {x y : Int64} (hd : decode M.2.1 pc = .ok (.lor, 1)) (hp : pc + 1 = pc2) (kk : xWP G l M d Z k n pc2 L (.long (x ||| y) :: st) h) : xWP G l M d Z k n pc L (.long y :: .long x :: st) h := by
  intro p e R s m args below meth c H locs cells slots mc ms ls hO hR hS hk hn hl
  subst hp
  exact lv_lor hO.1 hO.2.1 hd (kk p e R s m args below meth c H locs cells slots mc ms ls hO hR hS hk hn hl)
theorem x_lxor {x y : Int64} (hd : decode M.2.1 pc = .ok (.lxor, 1)) (hp : pc + 1 = pc2) (kk : xWP G l M d Z k n pc2 L (.long (x ^^^ y) :: st) h) : xWP G l M d Z k n pc L (.long y :: .long x :: st) h := by
  intro p e R s m args below meth c H locs cells slots mc ms ls hO hR hS hk hn hl
  subst hp
  exact lv_lxor hO.1 hO.2.1 hd (kk p e R s m args below meth c H locs cells slots mc ms ls hO hR hS hk hn hl)
theorem x_ineg {x : Int32} (hd : decode M.2.1 pc = .ok (.ineg, 1)) (hp : pc + 1 = pc2) (kk : xWP G l M d Z k n pc2 L (.int (-x) :: st) h) : xWP G l M d Z k n pc L (.int x :: st) h := by
  intro p e R s m args below meth c H locs cells slots mc ms ls hO hR hS hk hn hl
  subst hp
  exact lv_ineg hO.1 hO.2.1 hd (kk p e R s m args below meth c H locs cells slots mc ms ls hO hR hS hk hn hl)
theorem x_lneg {x : Int64} (hd : decode M.2.1 pc = .ok (.lneg, 1)) (hp : pc + 1 = pc2) (kk : xWP G l M d Z k n pc2 L (.long (-x) :: st) h) : xWP G l M d Z k n pc L (.long x :: st) h := by
  intro p e R s m args below meth c H locs cells slots mc ms ls hO hR hS hk hn hl
  subst hp
  exact lv_lneg hO.1 hO.2.1 hd (kk p e R s m args below meth c H locs cells slots mc ms ls hO hR hS hk hn hl)
theorem x_idiv {x y : Int32} (hd : decode M.2.1 pc = .ok (.idiv, 1)) (hp : pc + 1 = pc2) (hne : ¬ y = 0) (kk : xWP G l M d Z k n pc2 L (.int (x / y) :: st) h) : xWP G l M d Z k n pc L (.int y :: .int x :: st) h := by
  intro p e R s m args below meth c H locs cells slots mc ms ls hO hR hS hk hn hl
  subst hp
  exact lv_idiv hO.1 hO.2.1 hd hne (kk p e R s m args below meth c H locs cells slots mc ms ls hO hR hS hk hn hl)
theorem x_irem {x y : Int32} (hd : decode M.2.1 pc = .ok (.irem, 1)) (hp : pc + 1 = pc2) (hne : ¬ y = 0) (kk : xWP G l M d Z k n pc2 L (.int (x - x / y * y) :: st) h) : xWP G l M d Z k n pc L (.int y :: .int x :: st) h := by
  intro p e R s m args below meth c H locs cells slots mc ms ls hO hR hS hk hn hl
  subst hp
  exact lv_irem hO.1 hO.2.1 hd hne (kk p e R s m args below meth c H locs cells slots mc ms ls hO hR hS hk hn hl)
theorem x_ldiv {x y : Int64} (hd : decode M.2.1 pc = .ok (.ldiv, 1)) (hp : pc + 1 = pc2) (hne : ¬ y = 0) (kk : xWP G l M d Z k n pc2 L (.long (x / y) :: st) h) : xWP G l M d Z k n pc L (.long y :: .long x :: st) h := by
  intro p e R s m args below meth c H locs cells slots mc ms ls hO hR hS hk hn hl
  subst hp
  exact lv_ldiv hO.1 hO.2.1 hd hne (kk p e R s m args below meth c H locs cells slots mc ms ls hO hR hS hk hn hl)
theorem x_lrem {x y : Int64} (hd : decode M.2.1 pc = .ok (.lrem, 1)) (hp : pc + 1 = pc2) (hne : ¬ y = 0) (kk : xWP G l M d Z k n pc2 L (.long (x - x / y * y) :: st) h) : xWP G l M d Z k n pc L (.long y :: .long x :: st) h := by
  intro p e R s m args below meth c H locs cells slots mc ms ls hO hR hS hk hn hl
  subst hp
  exact lv_lrem hO.1 hO.2.1 hd hne (kk p e R s m args below meth c H locs cells slots mc ms ls hO hR hS hk hn hl)
theorem x_ishl {x y : Int32} (hd : decode M.2.1 pc = .ok (.ishl, 1)) (hp : pc + 1 = pc2) (kk : xWP G l M d Z k n pc2 L (.int (x <<< (y &&& 31)) :: st) h) : xWP G l M d Z k n pc L (.int y :: .int x :: st) h := by
  intro p e R s m args below meth c H locs cells slots mc ms ls hO hR hS hk hn hl
  subst hp
  exact lv_ishl hO.1 hO.2.1 hd (kk p e R s m args below meth c H locs cells slots mc ms ls hO hR hS hk hn hl)
theorem x_ishr {x y : Int32} (hd : decode M.2.1 pc = .ok (.ishr, 1)) (hp : pc + 1 = pc2) (kk : xWP G l M d Z k n pc2 L (.int (x >>> (y &&& 31)) :: st) h) : xWP G l M d Z k n pc L (.int y :: .int x :: st) h := by
  intro p e R s m args below meth c H locs cells slots mc ms ls hO hR hS hk hn hl
  subst hp
  exact lv_ishr hO.1 hO.2.1 hd (kk p e R s m args below meth c H locs cells slots mc ms ls hO hR hS hk hn hl)
theorem x_iushr {x y : Int32} (hd : decode M.2.1 pc = .ok (.iushr, 1)) (hp : pc + 1 = pc2) (kk : xWP G l M d Z k n pc2 L (.int ((x.toUInt32 >>> (y.toUInt32 &&& Int32.toUInt32 31)).toInt32) :: st) h) : xWP G l M d Z k n pc L (.int y :: .int x :: st) h := by
  intro p e R s m args below meth c H locs cells slots mc ms ls hO hR hS hk hn hl
  subst hp
  exact lv_iushr hO.1 hO.2.1 hd rfl (kk p e R s m args below meth c H locs cells slots mc ms ls hO hR hS hk hn hl)
theorem x_i2l {x : Int32} (hd : decode M.2.1 pc = .ok (.i2l, 1)) (hp : pc + 1 = pc2) (kk : xWP G l M d Z k n pc2 L (.long x.toInt64 :: st) h) : xWP G l M d Z k n pc L (.int x :: st) h := by
  intro p e R s m args below meth c H locs cells slots mc ms ls hO hR hS hk hn hl
  subst hp
  exact lv_i2l hO.1 hO.2.1 hd rfl (kk p e R s m args below meth c H locs cells slots mc ms ls hO hR hS hk hn hl)
theorem x_l2i {x : Int64} (hd : decode M.2.1 pc = .ok (.l2i, 1)) (hp : pc + 1 = pc2) (kk : xWP G l M d Z k n pc2 L (.int x.toInt32 :: st) h) : xWP G l M d Z k n pc L (.long x :: st) h := by
  intro p e R s m args below meth c H locs cells slots mc ms ls hO hR hS hk hn hl
  subst hp
  exact lv_l2i hO.1 hO.2.1 hd rfl (kk p e R s m args below meth c H locs cells slots mc ms ls hO hR hS hk hn hl)
theorem x_i2b {x : Int32} (hd : decode M.2.1 pc = .ok (.i2b, 1)) (hp : pc + 1 = pc2) (kk : xWP G l M d Z k n pc2 L (.int x.toInt8.toInt32 :: st) h) : xWP G l M d Z k n pc L (.int x :: st) h := by
  intro p e R s m args below meth c H locs cells slots mc ms ls hO hR hS hk hn hl
  subst hp
  exact lv_i2b hO.1 hO.2.1 hd rfl (kk p e R s m args below meth c H locs cells slots mc ms ls hO hR hS hk hn hl)
theorem x_i2c {x : Int32} (hd : decode M.2.1 pc = .ok (.i2c, 1)) (hp : pc + 1 = pc2) (kk : xWP G l M d Z k n pc2 L (.int (x.toUInt32 % 65536).toInt32 :: st) h) : xWP G l M d Z k n pc L (.int x :: st) h := by
  intro p e R s m args below meth c H locs cells slots mc ms ls hO hR hS hk hn hl
  subst hp
  exact lv_i2c hO.1 hO.2.1 hd rfl (kk p e R s m args below meth c H locs cells slots mc ms ls hO hR hS hk hn hl)
theorem x_lcmp {x y : Int64} (hd : decode M.2.1 pc = .ok (.lcmp, 1)) (hp : pc + 1 = pc2) (kk : xWP G l M d Z k n pc2 L (.int (lg_cmp x y) :: st) h) : xWP G l M d Z k n pc L (.long y :: .long x :: st) h := by
  intro p e R s m args below meth c H locs cells slots mc ms ls hO hR hS hk hn hl
  subst hp
  exact W.lcmp hO.1 hO.2.1 hd (kk p e R s m args below meth c H locs cells slots mc ms ls hO hR hS hk hn hl)
theorem x_iconst {c : Int} {v : Int32} (hd : decode M.2.1 pc = .ok (.iconst c, 1)) (hp : pc + 1 = pc2) (hv : Int32.ofInt c = v) (kk : xWP G l M d Z k n pc2 L (.int v :: st) h) : xWP G l M d Z k n pc L (st) h := by
  intro p e R s m args below meth c H locs cells slots mc ms ls hO hR hS hk hn hl
  subst hp
  exact lv_iconst hO.1 hO.2.1 hd hv (kk p e R s m args below meth c H locs cells slots mc ms ls hO hR hS hk hn hl)
theorem x_bipush {c : Int} {v : Int32} (hd : decode M.2.1 pc = .ok (.bipush c, 2)) (hp : pc + 2 = pc2) (hv : (Int8.ofInt c).toInt32 = v) (kk : xWP G l M d Z k n pc2 L (.int v :: st) h) : xWP G l M d Z k n pc L (st) h := by
  intro p e R s m args below meth c H locs cells slots mc ms ls hO hR hS hk hn hl
  subst hp
  exact lv_bipush hO.1 hO.2.1 hd hv (kk p e R s m args below meth c H locs cells slots mc ms ls hO hR hS hk hn hl)
theorem x_sipush {c : Int} {v : Int32} (hd : decode M.2.1 pc = .ok (.sipush c, 3)) (hp : pc + 3 = pc2) (hv : (Int16.ofInt c).toInt32 = v) (kk : xWP G l M d Z k n pc2 L (.int v :: st) h) : xWP G l M d Z k n pc L (st) h := by
  intro p e R s m args below meth c H locs cells slots mc ms ls hO hR hS hk hn hl
  subst hp
  exact lv_sipush hO.1 hO.2.1 hd hv (kk p e R s m args below meth c H locs cells slots mc ms ls hO hR hS hk hn hl)
theorem x_lconst {c : Fin 2} {v : Int64} (hd : decode M.2.1 pc = .ok (.lconst c, 1)) (hp : pc + 1 = pc2) (hv : Int64.ofNat (c : Nat) = v) (kk : xWP G l M d Z k n pc2 L (.long v :: st) h) : xWP G l M d Z k n pc L (st) h := by
  intro p e R s m args below meth c H locs cells slots mc ms ls hO hR hS hk hn hl
  subst hp
  exact lv_lconst hO.1 hO.2.1 hd hv (kk p e R s m args below meth c H locs cells slots mc ms ls hO hR hS hk hn hl)
theorem x_null (hd : decode M.2.1 pc = .ok (.aconst_null, 1)) (hp : pc + 1 = pc2) (kk : xWP G l M d Z k n pc2 L (.null :: st) h) : xWP G l M d Z k n pc L (st) h := by
  intro p e R s m args below meth c H locs cells slots mc ms ls hO hR hS hk hn hl
  subst hp
  exact lv_null hO.1 hO.2.1 hd (kk p e R s m args below meth c H locs cells slots mc ms ls hO hR hS hk hn hl)
theorem x_ldc2 {idx : Nat} {v : Int64} (hd : decode M.2.1 pc = .ok (.ldc2_w idx, 3)) (hp : pc + 3 = pc2) (hw : Cond.constantLong M.1.cls idx v ∈ xTT) (kk : xWP G l M d Z k n pc2 L (.long v :: st) h) : xWP G l M d Z k n pc L (st) h := by
  intro p e R s m args below meth c H locs cells slots mc ms ls hO hR hS hk hn hl
  subst hp
  exact lv_ldc2 hO.1 hO.2.1 hO.2.2.2.2.2.2.1 (hO.2.2.2.2.2.2.2.1 _ hw) hd (kk p e R s m args below meth c H locs cells slots mc ms ls hO hR hS hk hn hl)
theorem x_ldc {idx : Nat} {v : Int32} (hd : decode M.2.1 pc = .ok (.ldc idx, 2)) (hp : pc + 2 = pc2) (hw : Cond.constant M.1.cls idx v ∈ xTT) (kk : xWP G l M d Z k n pc2 L (.int v :: st) h) : xWP G l M d Z k n pc L (st) h := by
  intro p e R s m args below meth c H locs cells slots mc ms ls hO hR hS hk hn hl
  subst hp
  exact lv_ldc hO.1 hO.2.1 hO.2.2.2.2.2.2.1 (hO.2.2.2.2.2.2.2.1 _ hw) hd (kk p e R s m args below meth c H locs cells slots mc ms ls hO hR hS hk hn hl)
theorem x_iload_n {q : Fin 4} {i : Nat} {x : Int32} (hd : decode M.2.1 pc = .ok (.iload_n q, 1)) (hi : (q : Nat) = i) (hp : pc + 1 = pc2) (hv : L i = some (.int x)) (kk : xWP G l M d Z k n pc2 L (.int x :: st) h) : xWP G l M d Z k n pc L st h := by
  intro p e R s m args below meth c H locs cells slots mc ms ls hO hR hS hk hn hl
  subst hp
  exact lv_iload_n hO.1 hO.2.1 hd hi (hl.2.2 i _ hv) (kk p e R s m args below meth c H locs cells slots mc ms ls hO hR hS hk hn hl)
theorem x_iload {i : Nat} {x : Int32} (hd : decode M.2.1 pc = .ok (.iload i, 2)) (hp : pc + 2 = pc2) (hv : L i = some (.int x)) (kk : xWP G l M d Z k n pc2 L (.int x :: st) h) : xWP G l M d Z k n pc L st h := by
  intro p e R s m args below meth c H locs cells slots mc ms ls hO hR hS hk hn hl
  subst hp
  exact lv_iload hO.1 hO.2.1 hd (hl.2.2 i _ hv) (kk p e R s m args below meth c H locs cells slots mc ms ls hO hR hS hk hn hl)
theorem x_lload_n {q : Fin 4} {i : Nat} {x : Int64} (hd : decode M.2.1 pc = .ok (.lload_n q, 1)) (hi : (q : Nat) = i) (hp : pc + 1 = pc2) (hv : L i = some (.long x)) (kk : xWP G l M d Z k n pc2 L (.long x :: st) h) : xWP G l M d Z k n pc L st h := by
  intro p e R s m args below meth c H locs cells slots mc ms ls hO hR hS hk hn hl
  subst hp
  exact lv_lload_n hO.1 hO.2.1 hd hi (hl.2.2 i _ hv) (kk p e R s m args below meth c H locs cells slots mc ms ls hO hR hS hk hn hl)
theorem x_lload {i : Nat} {x : Int64} (hd : decode M.2.1 pc = .ok (.lload i, 2)) (hp : pc + 2 = pc2) (hv : L i = some (.long x)) (kk : xWP G l M d Z k n pc2 L (.long x :: st) h) : xWP G l M d Z k n pc L st h := by
  intro p e R s m args below meth c H locs cells slots mc ms ls hO hR hS hk hn hl
  subst hp
  exact lv_lload hO.1 hO.2.1 hd (hl.2.2 i _ hv) (kk p e R s m args below meth c H locs cells slots mc ms ls hO hR hS hk hn hl)
theorem x_aload_n {q : Fin 4} {i : Nat} {x : Nat} (hd : decode M.2.1 pc = .ok (.aload_n q, 1)) (hi : (q : Nat) = i) (hp : pc + 1 = pc2) (hv : L i = some (.ref x)) (kk : xWP G l M d Z k n pc2 L (.ref x :: st) h) : xWP G l M d Z k n pc L st h := by
  intro p e R s m args below meth c H locs cells slots mc ms ls hO hR hS hk hn hl
  subst hp
  exact lv_aload_n hO.1 hO.2.1 hd hi (hl.2.2 i _ hv) (kk p e R s m args below meth c H locs cells slots mc ms ls hO hR hS hk hn hl)
theorem x_aload {i : Nat} {x : Nat} (hd : decode M.2.1 pc = .ok (.aload i, 2)) (hp : pc + 2 = pc2) (hv : L i = some (.ref x)) (kk : xWP G l M d Z k n pc2 L (.ref x :: st) h) : xWP G l M d Z k n pc L st h := by
  intro p e R s m args below meth c H locs cells slots mc ms ls hO hR hS hk hn hl
  subst hp
  exact lv_aload hO.1 hO.2.1 hd (hl.2.2 i _ hv) (kk p e R s m args below meth c H locs cells slots mc ms ls hO hR hS hk hn hl)
theorem x_istore_n {q : Fin 4} {i : Nat} {x : Int32} (hd : decode M.2.1 pc = .ok (.istore_n q, 1)) (hi : (q : Nat) = i) (hp : pc + 1 = pc2) (hb : i < M.2.2.1) (kk : xWP G l M d Z k n pc2 (xst L i (.int x)) st h) : xWP G l M d Z k n pc L (.int x :: st) h := by
  intro p e R s m args below meth c H locs cells slots mc ms ls hO hR hS hk hn hl
  subst hp
  exact lv_istore_n hO.1 hO.2.1 hd hi hl.has hb rfl (fun ls2 h2 => kk p e R s m args below meth c H locs cells slots mc ms ls2 hO hR hS hk hn (xLs_st (v := .int x) hl h2))
theorem x_istore {i : Nat} {x : Int32} (hd : decode M.2.1 pc = .ok (.istore i, 2)) (hp : pc + 2 = pc2) (hb : i < M.2.2.1) (kk : xWP G l M d Z k n pc2 (xst L i (.int x)) st h) : xWP G l M d Z k n pc L (.int x :: st) h := by
  intro p e R s m args below meth c H locs cells slots mc ms ls hO hR hS hk hn hl
  subst hp
  exact lv_istore hO.1 hO.2.1 hd hl.has hb rfl (fun ls2 h2 => kk p e R s m args below meth c H locs cells slots mc ms ls2 hO hR hS hk hn (xLs_st (v := .int x) hl h2))
theorem x_lstore_n {q : Fin 4} {i : Nat} {x : Int64} (hd : decode M.2.1 pc = .ok (.lstore_n q, 1)) (hi : (q : Nat) = i) (hp : pc + 1 = pc2) (hb : i + 1 < M.2.2.1) (kk : xWP G l M d Z k n pc2 (xst2 L i (.long x)) st h) : xWP G l M d Z k n pc L (.long x :: st) h := by
  intro p e R s m args below meth c H locs cells slots mc ms ls hO hR hS hk hn hl
  subst hp
  exact lv_lstore_n hO.1 hO.2.1 hd hi hl.has hb rfl (fun ls2 h2 => kk p e R s m args below meth c H locs cells slots mc ms ls2 hO hR hS hk hn (xLs_st2 (v := .long x) hl h2))
theorem x_lstore {i : Nat} {x : Int64} (hd : decode M.2.1 pc = .ok (.lstore i, 2)) (hp : pc + 2 = pc2) (hb : i + 1 < M.2.2.1) (kk : xWP G l M d Z k n pc2 (xst2 L i (.long x)) st h) : xWP G l M d Z k n pc L (.long x :: st) h := by
  intro p e R s m args below meth c H locs cells slots mc ms ls hO hR hS hk hn hl
  subst hp
  exact lv_lstore hO.1 hO.2.1 hd hl.has hb rfl (fun ls2 h2 => kk p e R s m args below meth c H locs cells slots mc ms ls2 hO hR hS hk hn (xLs_st2 (v := .long x) hl h2))
theorem x_astore_n {q : Fin 4} {i : Nat} {x : Nat} (hd : decode M.2.1 pc = .ok (.astore_n q, 1)) (hi : (q : Nat) = i) (hp : pc + 1 = pc2) (hb : i < M.2.2.1) (kk : xWP G l M d Z k n pc2 (xst L i (.ref x)) st h) : xWP G l M d Z k n pc L (.ref x :: st) h := by
  intro p e R s m args below meth c H locs cells slots mc ms ls hO hR hS hk hn hl
  subst hp
  exact lv_astore_n hO.1 hO.2.1 hd hi hl.has hb rfl (fun ls2 h2 => kk p e R s m args below meth c H locs cells slots mc ms ls2 hO hR hS hk hn (xLs_st (v := .ref x) hl h2))
theorem x_astore {i : Nat} {x : Nat} (hd : decode M.2.1 pc = .ok (.astore i, 2)) (hp : pc + 2 = pc2) (hb : i < M.2.2.1) (kk : xWP G l M d Z k n pc2 (xst L i (.ref x)) st h) : xWP G l M d Z k n pc L (.ref x :: st) h := by
  intro p e R s m args below meth c H locs cells slots mc ms ls hO hR hS hk hn hl
  subst hp
  exact lv_astore hO.1 hO.2.1 hd hl.has hb rfl (fun ls2 h2 => kk p e R s m args below meth c H locs cells slots mc ms ls2 hO hR hS hk hn (xLs_st (v := .ref x) hl h2))
theorem x_iinc {i : Nat} {c : Int} {x v : Int32} (hd : decode M.2.1 pc = .ok (.iinc i c, 3)) (hp : pc + 3 = pc2) (hv : L i = some (.int x)) (hx : x + Int32.ofInt c = v) (kk : xWP G l M d Z k n pc2 (xst L i (.int v)) st h) : xWP G l M d Z k n pc L st h := by
  intro p e R s m args below meth c H locs cells slots mc ms ls hO hR hS hk hn hl
  subst hp
  obtain ⟨q, hq⟩ := List.getElem?_of_mem (xll_mem (G := G) (hl.lt hv) hv)
  exact lv_iinc hO.1 hO.2.1 hd hl.has hq hx (hl.lt hv) rfl (fun ls2 h2 => kk p e R s m args below meth c H locs cells slots mc ms ls2 hO hR hS hk hn (xLs_st (v := .int v) hl h2))
theorem x_dup {v : Value} (hd : decode M.2.1 pc = .ok (.dup, 1)) (hp : pc + 1 = pc2) (hc : v.category = 1) (kk : xWP G l M d Z k n pc2 L (v :: v :: st) h) : xWP G l M d Z k n pc L (v :: st) h := by
  intro p e R s m args below meth c H locs cells slots mc ms ls hO hR hS hk hn hl
  subst hp
  exact lv_dup hO.1 hO.2.1 hd (by rw [xtv_cat]; exact hc) (kk p e R s m args below meth c H locs cells slots mc ms ls hO hR hS hk hn hl)
theorem x_pop {v : Value} (hd : decode M.2.1 pc = .ok (.pop, 1)) (hp : pc + 1 = pc2) (hc : v.category = 1) (kk : xWP G l M d Z k n pc2 L st h) : xWP G l M d Z k n pc L (v :: st) h := by
  intro p e R s m args below meth c H locs cells slots mc ms ls hO hR hS hk hn hl
  subst hp
  exact lv_pop hO.1 hO.2.1 hd (by rw [xtv_cat]; exact hc) (kk p e R s m args below meth c H locs cells slots mc ms ls hO hR hS hk hn hl)
theorem x_dup_x1 {v u : Value} (hd : decode M.2.1 pc = .ok (.dup_x1, 1)) (hp : pc + 1 = pc2) (hc : v.category = 1) (hu : u.category = 1) (kk : xWP G l M d Z k n pc2 L (v :: u :: v :: st) h) : xWP G l M d Z k n pc L (v :: u :: st) h := by
  intro p e R s m args below meth c H locs cells slots mc ms ls hO hR hS hk hn hl
  subst hp
  exact lv_dup_x1 hO.1 hO.2.1 hd (by rw [xtv_cat]; exact hc) (by rw [xtv_cat]; exact hu) (kk p e R s m args below meth c H locs cells slots mc ms ls hO hR hS hk hn hl)
theorem x_dup_x2 {v u t : Value} (hd : decode M.2.1 pc = .ok (.dup_x2, 1)) (hp : pc + 1 = pc2) (hc : v.category = 1) (hu : u.category = 1) (ht : t.category = 1) (kk : xWP G l M d Z k n pc2 L (v :: u :: t :: v :: st) h) : xWP G l M d Z k n pc L (v :: u :: t :: st) h := by
  intro p e R s m args below meth c H locs cells slots mc ms ls hO hR hS hk hn hl
  subst hp
  exact lv_dup_x2 hO.1 hO.2.1 hd (by rw [xtv_cat]; exact hc) (by rw [xtv_cat]; exact hu) (by rw [xtv_cat]; exact ht) (kk p e R s m args below meth c H locs cells slots mc ms ls hO hR hS hk hn hl)
theorem x_dup2 {v u : Value} (hd : decode M.2.1 pc = .ok (.dup2, 1)) (hp : pc + 1 = pc2) (hc : v.category = 1) (hu : u.category = 1) (kk : xWP G l M d Z k n pc2 L (v :: u :: v :: u :: st) h) : xWP G l M d Z k n pc L (v :: u :: st) h := by
  intro p e R s m args below meth c H locs cells slots mc ms ls hO hR hS hk hn hl
  subst hp
  exact lv_dup2_11 hO.1 hO.2.1 hd (by rw [xtv_cat]; exact hc) (by rw [xtv_cat]; exact hu) (kk p e R s m args below meth c H locs cells slots mc ms ls hO hR hS hk hn hl)
theorem x_if_eq {x : Int32} {off : Int} {tgt : Nat} (hd : decode M.2.1 pc = .ok (.ifCond .eq off, 3)) (ht : (pc : Int) + off = (tgt : Int)) (hp : pc + 3 = pc2) (kt : x = 0 → xWP G l M d Z k n tgt L st h) (kf : ¬ (x = 0) → xWP G l M d Z k n pc2 L st h) : xWP G l M d Z k n pc L (.int x :: st) h := by
  intro p e R s m args below meth c H locs cells slots mc ms ls hO hR hS hk hn hl
  subst hp
  exact lv_if_eq hO.1 hO.2.1 hd ht (fun q => kt q p e R s m args below meth c H locs cells slots mc ms ls hO hR hS hk hn hl) (fun q => kf q p e R s m args below meth c H locs cells slots mc ms ls hO hR hS hk hn hl)
theorem x_if_eq_t {x : Int32} {off : Int} {tgt : Nat} (hd : decode M.2.1 pc = .ok (.ifCond .eq off, 3)) (ht : (pc : Int) + off = (tgt : Int)) (hc : x = 0) (kt : xWP G l M d Z k n tgt L st h) : xWP G l M d Z k n pc L (.int x :: st) h := x_if_eq hd ht rfl (fun _ => kt) (fun q => absurd hc q)
theorem x_if_eq_f {x : Int32} {off : Int} {tgt : Nat} (hd : decode M.2.1 pc = .ok (.ifCond .eq off, 3)) (ht : (pc : Int) + off = (tgt : Int)) (hp : pc + 3 = pc2) (hc : ¬ (x = 0)) (kf : xWP G l M d Z k n pc2 L st h) : xWP G l M d Z k n pc L (.int x :: st) h := x_if_eq hd ht hp (fun q => absurd q hc) (fun _ => kf)
theorem x_ic_eq {x y : Int32} {off : Int} {tgt : Nat} (hd : decode M.2.1 pc = .ok (.if_icmp .eq off, 3)) (ht : (pc : Int) + off = (tgt : Int)) (hp : pc + 3 = pc2) (kt : x = y → xWP G l M d Z k n tgt L st h) (kf : ¬ (x = y) → xWP G l M d Z k n pc2 L st h) : xWP G l M d Z k n pc L (.int y :: .int x :: st) h := by
  intro p e R s m args below meth c H locs cells slots mc ms ls hO hR hS hk hn hl
  subst hp
  exact lv_icmp_eq hO.1 hO.2.1 hd ht (fun q => kt q p e R s m args below meth c H locs cells slots mc ms ls hO hR hS hk hn hl) (fun q => kf q p e R s m args below meth c H locs cells slots mc ms ls hO hR hS hk hn hl)
theorem x_ic_eq_t {x y : Int32} {off : Int} {tgt : Nat} (hd : decode M.2.1 pc = .ok (.if_icmp .eq off, 3)) (ht : (pc : Int) + off = (tgt : Int)) (hc : x = y) (kt : xWP G l M d Z k n tgt L st h) : xWP G l M d Z k n pc L (.int y :: .int x :: st) h := x_ic_eq hd ht rfl (fun _ => kt) (fun q => absurd hc q)
theorem x_ic_eq_f {x y : Int32} {off : Int} {tgt : Nat} (hd : decode M.2.1 pc = .ok (.if_icmp .eq off, 3)) (ht : (pc : Int) + off = (tgt : Int)) (hp : pc + 3 = pc2) (hc : ¬ (x = y)) (kf : xWP G l M d Z k n pc2 L st h) : xWP G l M d Z k n pc L (.int y :: .int x :: st) h := x_ic_eq hd ht hp (fun q => absurd q hc) (fun _ => kf)
theorem x_if_ne {x : Int32} {off : Int} {tgt : Nat} (hd : decode M.2.1 pc = .ok (.ifCond .ne off, 3)) (ht : (pc : Int) + off = (tgt : Int)) (hp : pc + 3 = pc2) (kt : ¬ x = 0 → xWP G l M d Z k n tgt L st h) (kf : x = 0 → xWP G l M d Z k n pc2 L st h) : xWP G l M d Z k n pc L (.int x :: st) h := by
  intro p e R s m args below meth c H locs cells slots mc ms ls hO hR hS hk hn hl
  subst hp
  exact lv_if_ne hO.1 hO.2.1 hd ht (fun q => kt q p e R s m args below meth c H locs cells slots mc ms ls hO hR hS hk hn hl) (fun q => kf q p e R s m args below meth c H locs cells slots mc ms ls hO hR hS hk hn hl)
theorem x_if_ne_t {x : Int32} {off : Int} {tgt : Nat} (hd : decode M.2.1 pc = .ok (.ifCond .ne off, 3)) (ht : (pc : Int) + off = (tgt : Int)) (hc : ¬ x = 0) (kt : xWP G l M d Z k n tgt L st h) : xWP G l M d Z k n pc L (.int x :: st) h := x_if_ne hd ht rfl (fun _ => kt) (fun q => absurd q hc)
theorem x_if_ne_f {x : Int32} {off : Int} {tgt : Nat} (hd : decode M.2.1 pc = .ok (.ifCond .ne off, 3)) (ht : (pc : Int) + off = (tgt : Int)) (hp : pc + 3 = pc2) (hc : x = 0) (kf : xWP G l M d Z k n pc2 L st h) : xWP G l M d Z k n pc L (.int x :: st) h := x_if_ne hd ht hp (fun q => absurd hc q) (fun _ => kf)
theorem x_ic_ne {x y : Int32} {off : Int} {tgt : Nat} (hd : decode M.2.1 pc = .ok (.if_icmp .ne off, 3)) (ht : (pc : Int) + off = (tgt : Int)) (hp : pc + 3 = pc2) (kt : ¬ x = y → xWP G l M d Z k n tgt L st h) (kf : x = y → xWP G l M d Z k n pc2 L st h) : xWP G l M d Z k n pc L (.int y :: .int x :: st) h := by
  intro p e R s m args below meth c H locs cells slots mc ms ls hO hR hS hk hn hl
  subst hp
  exact lv_icmp_ne hO.1 hO.2.1 hd ht (fun q => kt q p e R s m args below meth c H locs cells slots mc ms ls hO hR hS hk hn hl) (fun q => kf q p e R s m args below meth c H locs cells slots mc ms ls hO hR hS hk hn hl)
theorem x_ic_ne_t {x y : Int32} {off : Int} {tgt : Nat} (hd : decode M.2.1 pc = .ok (.if_icmp .ne off, 3)) (ht : (pc : Int) + off = (tgt : Int)) (hc : ¬ x = y) (kt : xWP G l M d Z k n tgt L st h) : xWP G l M d Z k n pc L (.int y :: .int x :: st) h := x_ic_ne hd ht rfl (fun _ => kt) (fun q => absurd q hc)
theorem x_ic_ne_f {x y : Int32} {off : Int} {tgt : Nat} (hd : decode M.2.1 pc = .ok (.if_icmp .ne off, 3)) (ht : (pc : Int) + off = (tgt : Int)) (hp : pc + 3 = pc2) (hc : x = y) (kf : xWP G l M d Z k n pc2 L st h) : xWP G l M d Z k n pc L (.int y :: .int x :: st) h := x_ic_ne hd ht hp (fun q => absurd hc q) (fun _ => kf)
theorem x_if_lt {x : Int32} {off : Int} {tgt : Nat} (hd : decode M.2.1 pc = .ok (.ifCond .lt off, 3)) (ht : (pc : Int) + off = (tgt : Int)) (hp : pc + 3 = pc2) (kt : x < 0 → xWP G l M d Z k n tgt L st h) (kf : ¬ (x < 0) → xWP G l M d Z k n pc2 L st h) : xWP G l M d Z k n pc L (.int x :: st) h := by
  intro p e R s m args below meth c H locs cells slots mc ms ls hO hR hS hk hn hl
  subst hp
  exact lv_if_lt hO.1 hO.2.1 hd ht (fun q => kt q p e R s m args below meth c H locs cells slots mc ms ls hO hR hS hk hn hl) (fun q => kf q p e R s m args below meth c H locs cells slots mc ms ls hO hR hS hk hn hl)
theorem x_if_lt_t {x : Int32} {off : Int} {tgt : Nat} (hd : decode M.2.1 pc = .ok (.ifCond .lt off, 3)) (ht : (pc : Int) + off = (tgt : Int)) (hc : x < 0) (kt : xWP G l M d Z k n tgt L st h) : xWP G l M d Z k n pc L (.int x :: st) h := x_if_lt hd ht rfl (fun _ => kt) (fun q => absurd hc q)
theorem x_if_lt_f {x : Int32} {off : Int} {tgt : Nat} (hd : decode M.2.1 pc = .ok (.ifCond .lt off, 3)) (ht : (pc : Int) + off = (tgt : Int)) (hp : pc + 3 = pc2) (hc : ¬ (x < 0)) (kf : xWP G l M d Z k n pc2 L st h) : xWP G l M d Z k n pc L (.int x :: st) h := x_if_lt hd ht hp (fun q => absurd q hc) (fun _ => kf)
theorem x_ic_lt {x y : Int32} {off : Int} {tgt : Nat} (hd : decode M.2.1 pc = .ok (.if_icmp .lt off, 3)) (ht : (pc : Int) + off = (tgt : Int)) (hp : pc + 3 = pc2) (kt : x < y → xWP G l M d Z k n tgt L st h) (kf : ¬ (x < y) → xWP G l M d Z k n pc2 L st h) : xWP G l M d Z k n pc L (.int y :: .int x :: st) h := by
  intro p e R s m args below meth c H locs cells slots mc ms ls hO hR hS hk hn hl
  subst hp
  exact lv_icmp_lt hO.1 hO.2.1 hd ht (fun q => kt q p e R s m args below meth c H locs cells slots mc ms ls hO hR hS hk hn hl) (fun q => kf q p e R s m args below meth c H locs cells slots mc ms ls hO hR hS hk hn hl)
theorem x_ic_lt_t {x y : Int32} {off : Int} {tgt : Nat} (hd : decode M.2.1 pc = .ok (.if_icmp .lt off, 3)) (ht : (pc : Int) + off = (tgt : Int)) (hc : x < y) (kt : xWP G l M d Z k n tgt L st h) : xWP G l M d Z k n pc L (.int y :: .int x :: st) h := x_ic_lt hd ht rfl (fun _ => kt) (fun q => absurd hc q)
theorem x_ic_lt_f {x y : Int32} {off : Int} {tgt : Nat} (hd : decode M.2.1 pc = .ok (.if_icmp .lt off, 3)) (ht : (pc : Int) + off = (tgt : Int)) (hp : pc + 3 = pc2) (hc : ¬ (x < y)) (kf : xWP G l M d Z k n pc2 L st h) : xWP G l M d Z k n pc L (.int y :: .int x :: st) h := x_ic_lt hd ht hp (fun q => absurd q hc) (fun _ => kf)
theorem x_if_ge {x : Int32} {off : Int} {tgt : Nat} (hd : decode M.2.1 pc = .ok (.ifCond .ge off, 3)) (ht : (pc : Int) + off = (tgt : Int)) (hp : pc + 3 = pc2) (kt : 0 ≤ x → xWP G l M d Z k n tgt L st h) (kf : ¬ (0 ≤ x) → xWP G l M d Z k n pc2 L st h) : xWP G l M d Z k n pc L (.int x :: st) h := by
  intro p e R s m args below meth c H locs cells slots mc ms ls hO hR hS hk hn hl
  subst hp
  exact lv_if_ge hO.1 hO.2.1 hd ht (fun q => kt q p e R s m args below meth c H locs cells slots mc ms ls hO hR hS hk hn hl) (fun q => kf q p e R s m args below meth c H locs cells slots mc ms ls hO hR hS hk hn hl)
theorem x_if_ge_t {x : Int32} {off : Int} {tgt : Nat} (hd : decode M.2.1 pc = .ok (.ifCond .ge off, 3)) (ht : (pc : Int) + off = (tgt : Int)) (hc : 0 ≤ x) (kt : xWP G l M d Z k n tgt L st h) : xWP G l M d Z k n pc L (.int x :: st) h := x_if_ge hd ht rfl (fun _ => kt) (fun q => absurd hc q)
theorem x_if_ge_f {x : Int32} {off : Int} {tgt : Nat} (hd : decode M.2.1 pc = .ok (.ifCond .ge off, 3)) (ht : (pc : Int) + off = (tgt : Int)) (hp : pc + 3 = pc2) (hc : ¬ (0 ≤ x)) (kf : xWP G l M d Z k n pc2 L st h) : xWP G l M d Z k n pc L (.int x :: st) h := x_if_ge hd ht hp (fun q => absurd q hc) (fun _ => kf)
theorem x_ic_ge {x y : Int32} {off : Int} {tgt : Nat} (hd : decode M.2.1 pc = .ok (.if_icmp .ge off, 3)) (ht : (pc : Int) + off = (tgt : Int)) (hp : pc + 3 = pc2) (kt : y ≤ x → xWP G l M d Z k n tgt L st h) (kf : ¬ (y ≤ x) → xWP G l M d Z k n pc2 L st h) : xWP G l M d Z k n pc L (.int y :: .int x :: st) h := by
  intro p e R s m args below meth c H locs cells slots mc ms ls hO hR hS hk hn hl
  subst hp
  exact lv_icmp_ge hO.1 hO.2.1 hd ht (fun q => kt q p e R s m args below meth c H locs cells slots mc ms ls hO hR hS hk hn hl) (fun q => kf q p e R s m args below meth c H locs cells slots mc ms ls hO hR hS hk hn hl)
theorem x_ic_ge_t {x y : Int32} {off : Int} {tgt : Nat} (hd : decode M.2.1 pc = .ok (.if_icmp .ge off, 3)) (ht : (pc : Int) + off = (tgt : Int)) (hc : y ≤ x) (kt : xWP G l M d Z k n tgt L st h) : xWP G l M d Z k n pc L (.int y :: .int x :: st) h := x_ic_ge hd ht rfl (fun _ => kt) (fun q => absurd hc q)
theorem x_ic_ge_f {x y : Int32} {off : Int} {tgt : Nat} (hd : decode M.2.1 pc = .ok (.if_icmp .ge off, 3)) (ht : (pc : Int) + off = (tgt : Int)) (hp : pc + 3 = pc2) (hc : ¬ (y ≤ x)) (kf : xWP G l M d Z k n pc2 L st h) : xWP G l M d Z k n pc L (.int y :: .int x :: st) h := x_ic_ge hd ht hp (fun q => absurd q hc) (fun _ => kf)
theorem x_if_gt {x : Int32} {off : Int} {tgt : Nat} (hd : decode M.2.1 pc = .ok (.ifCond .gt off, 3)) (ht : (pc : Int) + off = (tgt : Int)) (hp : pc + 3 = pc2) (kt : 0 < x → xWP G l M d Z k n tgt L st h) (kf : ¬ (0 < x) → xWP G l M d Z k n pc2 L st h) : xWP G l M d Z k n pc L (.int x :: st) h := by
  intro p e R s m args below meth c H locs cells slots mc ms ls hO hR hS hk hn hl
  subst hp
  exact lv_if_gt hO.1 hO.2.1 hd ht (fun q => kt q p e R s m args below meth c H locs cells slots mc ms ls hO hR hS hk hn hl) (fun q => kf q p e R s m args below meth c H locs cells slots mc ms ls hO hR hS hk hn hl)
theorem x_if_gt_t {x : Int32} {off : Int} {tgt : Nat} (hd : decode M.2.1 pc = .ok (.ifCond .gt off, 3)) (ht : (pc : Int) + off = (tgt : Int)) (hc : 0 < x) (kt : xWP G l M d Z k n tgt L st h) : xWP G l M d Z k n pc L (.int x :: st) h := x_if_gt hd ht rfl (fun _ => kt) (fun q => absurd hc q)
theorem x_if_gt_f {x : Int32} {off : Int} {tgt : Nat} (hd : decode M.2.1 pc = .ok (.ifCond .gt off, 3)) (ht : (pc : Int) + off = (tgt : Int)) (hp : pc + 3 = pc2) (hc : ¬ (0 < x)) (kf : xWP G l M d Z k n pc2 L st h) : xWP G l M d Z k n pc L (.int x :: st) h := x_if_gt hd ht hp (fun q => absurd q hc) (fun _ => kf)
theorem x_ic_gt {x y : Int32} {off : Int} {tgt : Nat} (hd : decode M.2.1 pc = .ok (.if_icmp .gt off, 3)) (ht : (pc : Int) + off = (tgt : Int)) (hp : pc + 3 = pc2) (kt : y < x → xWP G l M d Z k n tgt L st h) (kf : ¬ (y < x) → xWP G l M d Z k n pc2 L st h) : xWP G l M d Z k n pc L (.int y :: .int x :: st) h := by
  intro p e R s m args below meth c H locs cells slots mc ms ls hO hR hS hk hn hl
  subst hp
  exact lv_icmp_gt hO.1 hO.2.1 hd ht (fun q => kt q p e R s m args below meth c H locs cells slots mc ms ls hO hR hS hk hn hl) (fun q => kf q p e R s m args below meth c H locs cells slots mc ms ls hO hR hS hk hn hl)
theorem x_ic_gt_t {x y : Int32} {off : Int} {tgt : Nat} (hd : decode M.2.1 pc = .ok (.if_icmp .gt off, 3)) (ht : (pc : Int) + off = (tgt : Int)) (hc : y < x) (kt : xWP G l M d Z k n tgt L st h) : xWP G l M d Z k n pc L (.int y :: .int x :: st) h := x_ic_gt hd ht rfl (fun _ => kt) (fun q => absurd hc q)
theorem x_ic_gt_f {x y : Int32} {off : Int} {tgt : Nat} (hd : decode M.2.1 pc = .ok (.if_icmp .gt off, 3)) (ht : (pc : Int) + off = (tgt : Int)) (hp : pc + 3 = pc2) (hc : ¬ (y < x)) (kf : xWP G l M d Z k n pc2 L st h) : xWP G l M d Z k n pc L (.int y :: .int x :: st) h := x_ic_gt hd ht hp (fun q => absurd q hc) (fun _ => kf)
theorem x_if_le {x : Int32} {off : Int} {tgt : Nat} (hd : decode M.2.1 pc = .ok (.ifCond .le off, 3)) (ht : (pc : Int) + off = (tgt : Int)) (hp : pc + 3 = pc2) (kt : x ≤ 0 → xWP G l M d Z k n tgt L st h) (kf : ¬ (x ≤ 0) → xWP G l M d Z k n pc2 L st h) : xWP G l M d Z k n pc L (.int x :: st) h := by
  intro p e R s m args below meth c H locs cells slots mc ms ls hO hR hS hk hn hl
  subst hp
  exact lv_if_le hO.1 hO.2.1 hd ht (fun q => kt q p e R s m args below meth c H locs cells slots mc ms ls hO hR hS hk hn hl) (fun q => kf q p e R s m args below meth c H locs cells slots mc ms ls hO hR hS hk hn hl)
theorem x_if_le_t {x : Int32} {off : Int} {tgt : Nat} (hd : decode M.2.1 pc = .ok (.ifCond .le off, 3)) (ht : (pc : Int) + off = (tgt : Int)) (hc : x ≤ 0) (kt : xWP G l M d Z k n tgt L st h) : xWP G l M d Z k n pc L (.int x :: st) h := x_if_le hd ht rfl (fun _ => kt) (fun q => absurd hc q)
theorem x_if_le_f {x : Int32} {off : Int} {tgt : Nat} (hd : decode M.2.1 pc = .ok (.ifCond .le off, 3)) (ht : (pc : Int) + off = (tgt : Int)) (hp : pc + 3 = pc2) (hc : ¬ (x ≤ 0)) (kf : xWP G l M d Z k n pc2 L st h) : xWP G l M d Z k n pc L (.int x :: st) h := x_if_le hd ht hp (fun q => absurd q hc) (fun _ => kf)
theorem x_ic_le {x y : Int32} {off : Int} {tgt : Nat} (hd : decode M.2.1 pc = .ok (.if_icmp .le off, 3)) (ht : (pc : Int) + off = (tgt : Int)) (hp : pc + 3 = pc2) (kt : x ≤ y → xWP G l M d Z k n tgt L st h) (kf : ¬ (x ≤ y) → xWP G l M d Z k n pc2 L st h) : xWP G l M d Z k n pc L (.int y :: .int x :: st) h := by
  intro p e R s m args below meth c H locs cells slots mc ms ls hO hR hS hk hn hl
  subst hp
  exact lv_icmp_le hO.1 hO.2.1 hd ht (fun q => kt q p e R s m args below meth c H locs cells slots mc ms ls hO hR hS hk hn hl) (fun q => kf q p e R s m args below meth c H locs cells slots mc ms ls hO hR hS hk hn hl)
theorem x_ic_le_t {x y : Int32} {off : Int} {tgt : Nat} (hd : decode M.2.1 pc = .ok (.if_icmp .le off, 3)) (ht : (pc : Int) + off = (tgt : Int)) (hc : x ≤ y) (kt : xWP G l M d Z k n tgt L st h) : xWP G l M d Z k n pc L (.int y :: .int x :: st) h := x_ic_le hd ht rfl (fun _ => kt) (fun q => absurd hc q)
theorem x_ic_le_f {x y : Int32} {off : Int} {tgt : Nat} (hd : decode M.2.1 pc = .ok (.if_icmp .le off, 3)) (ht : (pc : Int) + off = (tgt : Int)) (hp : pc + 3 = pc2) (hc : ¬ (x ≤ y)) (kf : xWP G l M d Z k n pc2 L st h) : xWP G l M d Z k n pc L (.int y :: .int x :: st) h := x_ic_le hd ht hp (fun q => absurd q hc) (fun _ => kf)
theorem x_goto {off : Int} {tgt : Nat} (hd : decode M.2.1 pc = .ok (.goto off, 3)) (ht : (pc : Int) + off = (tgt : Int)) (kk : xWP G l M d Z k n tgt L st h) : xWP G l M d Z k n pc L st h := by
  intro p e R s m args below meth c H locs cells slots mc ms ls hO hR hS hk hn hl
  exact lv_goto hO.1 hO.2.1 hd ht (kk p e R s m args below meth c H locs cells slots mc ms ls hO hR hS hk hn hl)
theorem x_tabOut {dflt lo hi : Int} {offs : Array Int} {len : Nat} {x : Int32} {tgt : Nat} (hd : decode M.2.1 pc = .ok (.tableswitch dflt lo hi offs, len)) (hx : x.toInt < lo ∨ hi < x.toInt) (ht : (pc : Int) + dflt = (tgt : Int)) (kk : xWP G l M d Z k n tgt L st h) : xWP G l M d Z k n pc L (.int x :: st) h := by
  intro p e R s m args below meth c H locs cells slots mc ms ls hO hR hS hk hn hl
  exact lv_tableOut hO.1 hO.2.1 hd hx ht (kk p e R s m args below meth c H locs cells slots mc ms ls hO hR hS hk hn hl)
theorem x_tabIn {dflt lo hi : Int} {offs : Array Int} {len : Nat} {x : Int32} {off : Int} {tgt : Nat} (hd : decode M.2.1 pc = .ok (.tableswitch dflt lo hi offs, len)) (h1 : ¬ x.toInt < lo) (h2 : ¬ hi < x.toInt) (ho : offs[(x.toInt - lo).toNat]? = some off) (ht : (pc : Int) + off = (tgt : Int)) (kk : xWP G l M d Z k n tgt L st h) : xWP G l M d Z k n pc L (.int x :: st) h := by
  intro p e R s m args below meth c H locs cells slots mc ms ls hO hR hS hk hn hl
  exact lv_tableIn hO.1 hO.2.1 hd h1 h2 ho ht (kk p e R s m args below meth c H locs cells slots mc ms ls hO hR hS hk hn hl)
theorem x_lookup {dflt : Int} {ps : Array (Int × Int)} {len : Nat} {x : Int32} {off : Int} {tgt : Nat} (hd : decode M.2.1 pc = .ok (.lookupswitch dflt ps, len)) (hpp : (ps.toList.zip (ps.toList.drop 1)).all (fun (a, next) => a.1 < next.1) = true) (ho : Op.lookupswitch.offset ps.toList dflt x.toInt = off) (ht : (pc : Int) + off = (tgt : Int)) (kk : xWP G l M d Z k n tgt L st h) : xWP G l M d Z k n pc L (.int x :: st) h := by
  intro p e R s m args below meth c H locs cells slots mc ms ls hO hR hS hk hn hl
  exact lv_lookup hO.1 hO.2.1 hd hpp ho ht (kk p e R s m args below meth c H locs cells slots mc ms ls hO hR hS hk hn hl)
theorem x_lv {L2 : xL} (hL : ∀ i v, L2 i = some v → L i = some v) (kk : xWP G l M d Z k n pc L2 st h) : xWP G l M d Z k n pc L st h := by
  intro p e R s m args below meth c H locs cells slots mc ms ls hO hR hS hk hn hl
  exact kk p e R s m args below meth c H locs cells slots mc ms ls hO hR hS hk hn ⟨hl.1, hl.2.1, fun i v hi => hl.2.2 i v (hL i v hi)⟩
def xall (L : xL) : List (Nat × Value) → Prop
  | [] => True
  | q :: r => L q.1 = some q.2 ∧ xall L r
theorem xall_mem {L : xL} : ∀ {r : List (Nat × Value)}, xall L r → ∀ {i : Nat} {v : Value}, (i, v) ∈ r → L i = some v
  | [], _, i, v, h => absurd h List.not_mem_nil
  | q :: r, ha, i, v, h => by
    rcases List.mem_cons.mp h with e | h
    · cases e
      exact ha.1
    · exact xall_mem ha.2 h
theorem x_ls (r : List (Nat × Value)) (ha : xall L r) (kk : xWP G l M d Z k n pc (xls r) st h) : xWP G l M d Z k n pc L st h := x_lv (fun _ _ hi => xall_mem ha (xls_mem hi)) kk
theorem x_less {k2 n2 : Nat} (h1 : k2 ≤ k) (h2 : n2 ≤ n) (kk : xWP G l M d Z k2 n2 pc L st h) : xWP G l M d Z k n pc L st h := by
  intro p e R s m args below meth c H locs cells slots mc ms ls hO hR hS hk hn hl
  exact kk p e R s m args below meth c H locs cells slots mc ms ls hO hR hS (by omega) (by omega) hl
theorem x_ireturn {Q : Option Value → xH → Prop} {ty : FieldType} {v : Int32} (hd : decode M.2.1 pc = .ok (.ireturn, 1)) (hr : M.2.2.2 = some ty) (hv : narrow ty (.int v) = .int v) (hq : Q (some (.int v)) h) : xWP G l M d (zM G Q) k n pc L [.int v] h := by
  intro p e R s m args below meth c H locs cells slots mc ms ls hO hR hS hk hn hl
  refine W.widen (k := mc) (n := ms) (by omega) (by omega) ?_
  exact W.zret hO.1 hO.2.1 (hO.2.2.2.1.trans hr) hv (fun t ht hW => ⟨⟨some (.int v), h, rfl, hq, by rw [ht]; exact hR⟩, hS.F ht⟩) hS.2.2 hd hO.2.2.2.2.1
theorem x_lreturn {Q : Option Value → xH → Prop} {v : Int64} (hd : decode M.2.1 pc = .ok (.lreturn, 1)) (hr : M.2.2.2 = some .long) (hq : Q (some (.long v)) h) : xWP G l M d (zM G Q) k n pc L [.long v] h := by
  intro p e R s m args below meth c H locs cells slots mc ms ls hO hR hS hk hn hl
  refine W.widen (k := mc) (n := ms) (by omega) (by omega) ?_
  exact W.lret hO.1 hO.2.1 (hO.2.2.2.1.trans hr) (fun t ht hW => ⟨⟨some (.long v), h, rfl, hq, by rw [ht]; exact hR⟩, hS.F ht⟩) hS.2.2 hd hO.2.2.2.2.1
theorem x_return {Q : Option Value → xH → Prop} (hd : decode M.2.1 pc = .ok (.return_, 1)) (hr : M.2.2.2 = none) (hq : Q none h) : xWP G l M d (zM G Q) k n pc L [] h := by
  intro p e R s m args below meth c H locs cells slots mc ms ls hO hR hS hk hn hl
  refine W.widen (k := mc) (n := ms) (by omega) (by omega) ?_
  exact W.vret hO.1 hO.2.1 (hO.2.2.2.1.trans hr) (fun t ht hW => ⟨⟨none, h, rfl, hq, by rw [ht]; exact hR⟩, hS.F ht⟩) hS.2.2 hd hO.2.2.2.2.1
theorem x_areturn {Q : Option Value → xH → Prop} {a : Nat} {rt : FieldType} (hd : decode M.2.1 pc = .ok (.areturn, 1)) (hr : M.2.2.2 = some rt) (hrt : (∃ c, rt = .object c) ∨ ∃ t, rt = .array t) (hq : Q (some (.ref a)) h) : xWP G l M d (zM G Q) k n pc L [.ref a] h := by
  intro p e R s m args below meth c H locs cells slots mc ms ls hO hR hS hk hn hl
  refine W.widen (k := mc) (n := ms) (by omega) (by omega) ?_
  exact W.aret hO.1 hO.2.1 (hO.2.2.2.1.trans hr) hrt (Or.inr ⟨_, rfl⟩) (fun t ht hW => ⟨⟨some (.ref a), h, rfl, hq, by rw [ht]; exact hR⟩, hS.F ht⟩) hS.2.2 hd hO.2.2.2.2.1
end XR
