/-! THE RULES, an instruction each: what is asked at the next place gives what is asked here -/
section AXR
variable {g : ac_G} {I : ac_I} {d mc ms ce sl pc pc' : Nat} {Q : ac_O → ac_W → Prop} {L : List (Option Value)} {S : List Value} {w : ac_W}
theorem ax_iadd {x y : Int32} (hd : decode I.2.1 pc = .ok (.iadd, 1)) (hp : pc' = pc + 1) (k : ac_X g I d mc ms Q ce sl pc' L (.int (x + y) :: S) w) : ac_X g I d mc ms Q ce sl pc L (.int y :: .int x :: S) w := by
  subst hp
  intro p e s m args below meth c X H locs ls hR hS hL
  exact lv_iadd X.1 X.2.1 hd (k p e s m args below meth c X H locs ls hR hS hL)
theorem ax_isub {x y : Int32} (hd : decode I.2.1 pc = .ok (.isub, 1)) (hp : pc' = pc + 1) (k : ac_X g I d mc ms Q ce sl pc' L (.int (x - y) :: S) w) : ac_X g I d mc ms Q ce sl pc L (.int y :: .int x :: S) w := by
  subst hp
  intro p e s m args below meth c X H locs ls hR hS hL
  exact lv_isub X.1 X.2.1 hd (k p e s m args below meth c X H locs ls hR hS hL)
theorem ax_imul {x y : Int32} (hd : decode I.2.1 pc = .ok (.imul, 1)) (hp : pc' = pc + 1) (k : ac_X g I d mc ms Q ce sl pc' L (.int (x * y) :: S) w) : ac_X g I d mc ms Q ce sl pc L (.int y :: .int x :: S) w := by
  subst hp
  intro p e s m args below meth c X H locs ls hR hS hL
  exact lv_imul X.1 X.2.1 hd (k p e s m args below meth c X H locs ls hR hS hL)
theorem ax_iand {x y : Int32} (hd : decode I.2.1 pc = .ok (.iand, 1)) (hp : pc' = pc + 1) (k : ac_X g I d mc ms Q ce sl pc' L (.int (x &&& y) :: S) w) : ac_X g I d mc ms Q ce sl pc L (.int y :: .int x :: S) w := by
  subst hp
  intro p e s m args below meth c X H locs ls hR hS hL
  exact lv_iand X.1 X.2.1 hd (k p e s m args below meth c X H locs ls hR hS hL)
theorem ax_ior {x y : Int32} (hd : decode I.2.1 pc = .ok (.ior, 1)) (hp : pc' = pc + 1) (k : ac_X g I d mc ms Q ce sl pc' L (.int (x ||| y) :: S) w) : ac_X g I d mc ms Q ce sl pc L (.int y :: .int x :: S) w := by
  subst hp
  intro p e s m args below meth c X H locs ls hR hS hL
  exact lv_ior X.1 X.2.1 hd (k p e s m args below meth c X H locs ls hR hS hL)
theorem ax_ixor {x y : Int32} (hd : decode I.2.1 pc = .ok (.ixor, 1)) (hp : pc' = pc + 1) (k : ac_X g I d mc ms Q ce sl pc' L (.int (x ^^^ y) :: S) w) : ac_X g I d mc ms Q ce sl pc L (.int y :: .int x :: S) w := by
  subst hp
  intro p e s m args below meth c X H locs ls hR hS hL
  exact lv_ixor X.1 X.2.1 hd (k p e s m args below meth c X H locs ls hR hS hL)
theorem ax_ishl {x y : Int32} (hd : decode I.2.1 pc = .ok (.ishl, 1)) (hp : pc' = pc + 1) (k : ac_X g I d mc ms Q ce sl pc' L (.int (x <<< (y &&& 31)) :: S) w) : ac_X g I d mc ms Q ce sl pc L (.int y :: .int x :: S) w := by
  subst hp
  intro p e s m args below meth c X H locs ls hR hS hL
  exact lv_ishl X.1 X.2.1 hd (k p e s m args below meth c X H locs ls hR hS hL)
theorem ax_ishr {x y : Int32} (hd : decode I.2.1 pc = .ok (.ishr, 1)) (hp : pc' = pc + 1) (k : ac_X g I d mc ms Q ce sl pc' L (.int (x >>> (y &&& 31)) :: S) w) : ac_X g I d mc ms Q ce sl pc L (.int y :: .int x :: S) w := by
  subst hp
  intro p e s m args below meth c X H locs ls hR hS hL
  exact lv_ishr X.1 X.2.1 hd (k p e s m args below meth c X H locs ls hR hS hL)
theorem ax_idiv {x y : Int32} (hd : decode I.2.1 pc = .ok (.idiv, 1)) (hne : ¬ y = 0) (hp : pc' = pc + 1) (k : ac_X g I d mc ms Q ce sl pc' L (.int (x / y) :: S) w) : ac_X g I d mc ms Q ce sl pc L (.int y :: .int x :: S) w := by
  subst hp
  intro p e s m args below meth c X H locs ls hR hS hL
  exact lv_idiv X.1 X.2.1 hd hne (k p e s m args below meth c X H locs ls hR hS hL)
theorem ax_irem {x y : Int32} (hd : decode I.2.1 pc = .ok (.irem, 1)) (hne : ¬ y = 0) (hp : pc' = pc + 1) (k : ac_X g I d mc ms Q ce sl pc' L (.int (x - x / y * y) :: S) w) : ac_X g I d mc ms Q ce sl pc L (.int y :: .int x :: S) w := by
  subst hp
  intro p e s m args below meth c X H locs ls hR hS hL
  exact lv_irem X.1 X.2.1 hd hne (k p e s m args below meth c X H locs ls hR hS hL)
theorem ax_iushr {x y : Int32} (hd : decode I.2.1 pc = .ok (.iushr, 1)) (hp : pc' = pc + 1) (k : ac_X g I d mc ms Q ce sl pc' L (.int ((x.toUInt32 >>> (y.toUInt32 &&& Int32.toUInt32 31)).toInt32) :: S) w) : ac_X g I d mc ms Q ce sl pc L (.int y :: .int x :: S) w := by
  subst hp
  intro p e s m args below meth c X H locs ls hR hS hL
  exact lv_iushr X.1 X.2.1 hd rfl (k p e s m args below meth c X H locs ls hR hS hL)
theorem ax_ineg {x : Int32} (hd : decode I.2.1 pc = .ok (.ineg, 1)) (hp : pc' = pc + 1) (k : ac_X g I d mc ms Q ce sl pc' L (.int (-x) :: S) w) : ac_X g I d mc ms Q ce sl pc L (.int x :: S) w := by
  subst hp
  intro p e s m args below meth c X H locs ls hR hS hL
  exact lv_ineg X.1 X.2.1 hd (k p e s m args below meth c X H locs ls hR hS hL)
theorem ax_ladd {x y : Int64} (hd : decode I.2.1 pc = .ok (.ladd, 1)) (hp : pc' = pc + 1) (k : ac_X g I d mc ms Q ce sl pc' L (.long (x + y) :: S) w) : ac_X g I d mc ms Q ce sl pc L (.long y :: .long x :: S) w := by
  subst hp
  intro p e s m args below meth c X H locs ls hR hS hL
  exact lv_ladd X.1 X.2.1 hd (k p e s m args below meth c X H locs ls hR hS hL)
theorem ax_lsub {x y : Int64} (hd : decode I.2.1 pc = .ok (.lsub, 1)) (hp : pc' = pc + 1) (k : ac_X g I d mc ms Q ce sl pc' L (.long (x - y) :: S) w) : ac_X g I d mc ms Q ce sl pc L (.long y :: .long x :: S) w := by
  subst hp
  intro p e s m args below meth c X H locs ls hR hS hL
  exact lv_lsub X.1 X.2.1 hd (k p e s m args below meth c X H locs ls hR hS hL)
theorem ax_lmul {x y : Int64} (hd : decode I.2.1 pc = .ok (.lmul, 1)) (hp : pc' = pc + 1) (k : ac_X g I d mc ms Q ce sl pc' L (.long (x * y) :: S) w) : ac_X g I d mc ms Q ce sl pc L (.long y :: .long x :: S) w := by
  subst hp
  intro p e s m args below meth c X H locs ls hR hS hL
  exact lv_lmul X.1 X.2.1 hd (k p e s m args below meth c X H locs ls hR hS hL)
theorem ax_ldiv {x y : Int64} (hd : decode I.2.1 pc = .ok (.ldiv, 1)) (hne : ¬ y = 0) (hp : pc' = pc + 1) (k : ac_X g I d mc ms Q ce sl pc' L (.long (x / y) :: S) w) : ac_X g I d mc ms Q ce sl pc L (.long y :: .long x :: S) w := by
  subst hp
  intro p e s m args below meth c X H locs ls hR hS hL
  exact lv_ldiv X.1 X.2.1 hd hne (k p e s m args below meth c X H locs ls hR hS hL)
theorem ax_lrem {x y : Int64} (hd : decode I.2.1 pc = .ok (.lrem, 1)) (hne : ¬ y = 0) (hp : pc' = pc + 1) (k : ac_X g I d mc ms Q ce sl pc' L (.long (x - x / y * y) :: S) w) : ac_X g I d mc ms Q ce sl pc L (.long y :: .long x :: S) w := by
  subst hp
  intro p e s m args below meth c X H locs ls hR hS hL
  exact lv_lrem X.1 X.2.1 hd hne (k p e s m args below meth c X H locs ls hR hS hL)
theorem ax_lshl {x : Int64} {y : Int32} (hd : decode I.2.1 pc = .ok (.lshl, 1)) (hp : pc' = pc + 1) (k : ac_X g I d mc ms Q ce sl pc' L (.long (x <<< (y.toInt64 &&& 63)) :: S) w) : ac_X g I d mc ms Q ce sl pc L (.int y :: .long x :: S) w := by
  subst hp
  intro p e s m args below meth c X H locs ls hR hS hL
  exact lv_lshl X.1 X.2.1 hd rfl (k p e s m args below meth c X H locs ls hR hS hL)
theorem ax_lcmp {x y : Int64} (hd : decode I.2.1 pc = .ok (.lcmp, 1)) (hp : pc' = pc + 1) (k : ac_X g I d mc ms Q ce sl pc' L (.int (lg_cmp x y) :: S) w) : ac_X g I d mc ms Q ce sl pc L (.long y :: .long x :: S) w := by
  subst hp
  intro p e s m args below meth c X H locs ls hR hS hL
  exact W.lcmp X.1 X.2.1 hd (k p e s m args below meth c X H locs ls hR hS hL)
theorem ax_i2l {x : Int32} (hd : decode I.2.1 pc = .ok (.i2l, 1)) (hp : pc' = pc + 1) (k : ac_X g I d mc ms Q ce sl pc' L (.long x.toInt64 :: S) w) : ac_X g I d mc ms Q ce sl pc L (.int x :: S) w := by
  subst hp
  intro p e s m args below meth c X H locs ls hR hS hL
  exact lv_i2l X.1 X.2.1 hd rfl (k p e s m args below meth c X H locs ls hR hS hL)
theorem ax_i2b {x : Int32} (hd : decode I.2.1 pc = .ok (.i2b, 1)) (hp : pc' = pc + 1) (k : ac_X g I d mc ms Q ce sl pc' L (.int x.toInt8.toInt32 :: S) w) : ac_X g I d mc ms Q ce sl pc L (.int x :: S) w := by
  subst hp
  intro p e s m args below meth c X H locs ls hR hS hL
  exact lv_i2b X.1 X.2.1 hd rfl (k p e s m args below meth c X H locs ls hR hS hL)
theorem ax_i2c {x : Int32} (hd : decode I.2.1 pc = .ok (.i2c, 1)) (hp : pc' = pc + 1) (k : ac_X g I d mc ms Q ce sl pc' L (.int (x.toUInt32 % 65536).toInt32 :: S) w) : ac_X g I d mc ms Q ce sl pc L (.int x :: S) w := by
  subst hp
  intro p e s m args below meth c X H locs ls hR hS hL
  exact lv_i2c X.1 X.2.1 hd rfl (k p e s m args below meth c X H locs ls hR hS hL)
theorem ax_iconst {n : Int} {v : Int32} (hd : decode I.2.1 pc = .ok (.iconst n, 1)) (hv : Int32.ofInt n = v) (hp : pc' = pc + 1) (k : ac_X g I d mc ms Q ce sl pc' L (.int v :: S) w) : ac_X g I d mc ms Q ce sl pc L (S) w := by
  subst hp
  intro p e s m args below meth c X H locs ls hR hS hL
  exact lv_iconst X.1 X.2.1 hd hv (k p e s m args below meth c X H locs ls hR hS hL)
theorem ax_bipush {n : Int} {v : Int32} (hd : decode I.2.1 pc = .ok (.bipush n, 2)) (hv : (Int8.ofInt n).toInt32 = v) (hp : pc' = pc + 2) (k : ac_X g I d mc ms Q ce sl pc' L (.int v :: S) w) : ac_X g I d mc ms Q ce sl pc L (S) w := by
  subst hp
  intro p e s m args below meth c X H locs ls hR hS hL
  exact lv_bipush X.1 X.2.1 hd hv (k p e s m args below meth c X H locs ls hR hS hL)
theorem ax_sipush {n : Int} {v : Int32} (hd : decode I.2.1 pc = .ok (.sipush n, 3)) (hv : (Int16.ofInt n).toInt32 = v) (hp : pc' = pc + 3) (k : ac_X g I d mc ms Q ce sl pc' L (.int v :: S) w) : ac_X g I d mc ms Q ce sl pc L (S) w := by
  subst hp
  intro p e s m args below meth c X H locs ls hR hS hL
  exact lv_sipush X.1 X.2.1 hd hv (k p e s m args below meth c X H locs ls hR hS hL)
theorem ax_lconst {n : Fin 2} {v : Int64} (hd : decode I.2.1 pc = .ok (.lconst n, 1)) (hv : Int64.ofNat (n : Nat) = v) (hp : pc' = pc + 1) (k : ac_X g I d mc ms Q ce sl pc' L (.long v :: S) w) : ac_X g I d mc ms Q ce sl pc L (S) w := by
  subst hp
  intro p e s m args below meth c X H locs ls hR hS hL
  exact lv_lconst X.1 X.2.1 hd hv (k p e s m args below meth c X H locs ls hR hS hL)
theorem ax_dup {v : Value} (hd : decode I.2.1 pc = .ok (.dup, 1)) (hc : v.category = 1) (hp : pc' = pc + 1) (k : ac_X g I d mc ms Q ce sl pc' L (v :: v :: S) w) : ac_X g I d mc ms Q ce sl pc L (v :: S) w := by
  subst hp
  intro p e s m args below meth c X H locs ls hR hS hL
  exact lv_dup X.1 X.2.1 hd ((ac_v_cat g v).trans hc) (k p e s m args below meth c X H locs ls hR hS hL)
theorem ax_pop {v : Value} (hd : decode I.2.1 pc = .ok (.pop, 1)) (hc : v.category = 1) (hp : pc' = pc + 1) (k : ac_X g I d mc ms Q ce sl pc' L (S) w) : ac_X g I d mc ms Q ce sl pc L (v :: S) w := by
  subst hp
  intro p e s m args below meth c X H locs ls hR hS hL
  exact lv_pop X.1 X.2.1 hd ((ac_v_cat g v).trans hc) (k p e s m args below meth c X H locs ls hR hS hL)
theorem ax_dup2 {v u : Value} (hd : decode I.2.1 pc = .ok (.dup2, 1)) (hc : v.category = 1) (hc2 : u.category = 1) (hp : pc' = pc + 1) (k : ac_X g I d mc ms Q ce sl pc' L (v :: u :: v :: u :: S) w) : ac_X g I d mc ms Q ce sl pc L (v :: u :: S) w := by
  subst hp
  intro p e s m args below meth c X H locs ls hR hS hL
  exact lv_dup2_11 X.1 X.2.1 hd ((ac_v_cat g v).trans hc) ((ac_v_cat g u).trans hc2) (k p e s m args below meth c X H locs ls hR hS hL)
theorem ax_iload_n {k : Fin 4} {x : Int32} (hd : decode I.2.1 pc = .ok (.iload_n k, 1)) (hl : L[(k : Nat)]? = some (some (.int x))) (hp : pc' = pc + 1) (kk : ac_X g I d mc ms Q ce sl pc' L (.int x :: S) w) : ac_X g I d mc ms Q ce sl pc L S w := by
  subst hp
  intro p e s m args below meth c X H locs ls hR hS hL
  exact lv_iload_n X.1 X.2.1 hd rfl (hL.2.2 _ _ hl) (kk p e s m args below meth c X H locs ls hR hS hL)
theorem ax_iload {i : Nat} {x : Int32} (hd : decode I.2.1 pc = .ok (.iload i, 2)) (hl : L[i]? = some (some (.int x))) (hp : pc' = pc + 2) (kk : ac_X g I d mc ms Q ce sl pc' L (.int x :: S) w) : ac_X g I d mc ms Q ce sl pc L S w := by
  subst hp
  intro p e s m args below meth c X H locs ls hR hS hL
  exact lv_iload X.1 X.2.1 hd (hL.2.2 _ _ hl) (kk p e s m args below meth c X H locs ls hR hS hL)
theorem ax_lload_n {k : Fin 4} {x : Int64} (hd : decode I.2.1 pc = .ok (.lload_n k, 1)) (hl : L[(k : Nat)]? = some (some (.long x))) (hp : pc' = pc + 1) (kk : ac_X g I d mc ms Q ce sl pc' L (.long x :: S) w) : ac_X g I d mc ms Q ce sl pc L S w := by
  subst hp
  intro p e s m args below meth c X H locs ls hR hS hL
  exact lv_lload_n X.1 X.2.1 hd rfl (hL.2.2 _ _ hl) (kk p e s m args below meth c X H locs ls hR hS hL)
theorem ax_lload {i : Nat} {x : Int64} (hd : decode I.2.1 pc = .ok (.lload i, 2)) (hl : L[i]? = some (some (.long x))) (hp : pc' = pc + 2) (kk : ac_X g I d mc ms Q ce sl pc' L (.long x :: S) w) : ac_X g I d mc ms Q ce sl pc L S w := by
  subst hp
  intro p e s m args below meth c X H locs ls hR hS hL
  exact lv_lload X.1 X.2.1 hd (hL.2.2 _ _ hl) (kk p e s m args below meth c X H locs ls hR hS hL)
theorem ax_aload_n {k : Fin 4} {x : Nat} (hd : decode I.2.1 pc = .ok (.aload_n k, 1)) (hl : L[(k : Nat)]? = some (some (.ref x))) (hp : pc' = pc + 1) (kk : ac_X g I d mc ms Q ce sl pc' L (.ref x :: S) w) : ac_X g I d mc ms Q ce sl pc L S w := by
  subst hp
  intro p e s m args below meth c X H locs ls hR hS hL
  exact lv_aload_n X.1 X.2.1 hd rfl (hL.2.2 _ _ hl) (kk p e s m args below meth c X H locs ls hR hS hL)
theorem ax_aload {i : Nat} {x : Nat} (hd : decode I.2.1 pc = .ok (.aload i, 2)) (hl : L[i]? = some (some (.ref x))) (hp : pc' = pc + 2) (kk : ac_X g I d mc ms Q ce sl pc' L (.ref x :: S) w) : ac_X g I d mc ms Q ce sl pc L S w := by
  subst hp
  intro p e s m args below meth c X H locs ls hR hS hL
  exact lv_aload X.1 X.2.1 hd (hL.2.2 _ _ hl) (kk p e s m args below meth c X H locs ls hR hS hL)
theorem ax_istore_n {i : Fin 4} {x : Int32} {L' : List (Option Value)} (hd : decode I.2.1 pc = .ok (.istore_n i, 1)) (hs : ac_st1 L (i : Nat) (.int x) = some L') (hn : Nat.blt (i : Nat) I.2.2.1 = true) (hp : pc' = pc + 1) (kk : ac_X g I d mc ms Q ce sl pc' L' S w) : ac_X g I d mc ms Q ce sl pc L (.int x :: S) w := by
  subst hp
  intro p e s m args below meth c X H locs ls hR hS hL
  refine lv_istore_n X.1 X.2.1 hd rfl (ac_L.lv hL) (Nat.blt_eq.mp hn) rfl (fun ls' h' => ?_)
  exact kk p e s m args below meth c X H locs ls' hR hS (ac_L.st1 hL hs h')
theorem ax_istore {i : Nat} {x : Int32} {L' : List (Option Value)} (hd : decode I.2.1 pc = .ok (.istore i, 2)) (hs : ac_st1 L i (.int x) = some L') (hn : Nat.blt i I.2.2.1 = true) (hp : pc' = pc + 2) (kk : ac_X g I d mc ms Q ce sl pc' L' S w) : ac_X g I d mc ms Q ce sl pc L (.int x :: S) w := by
  subst hp
  intro p e s m args below meth c X H locs ls hR hS hL
  refine lv_istore X.1 X.2.1 hd (ac_L.lv hL) (Nat.blt_eq.mp hn) rfl (fun ls' h' => ?_)
  exact kk p e s m args below meth c X H locs ls' hR hS (ac_L.st1 hL hs h')
theorem ax_astore_n {i : Fin 4} {x : Nat} {L' : List (Option Value)} (hd : decode I.2.1 pc = .ok (.astore_n i, 1)) (hs : ac_st1 L (i : Nat) (.ref x) = some L') (hn : Nat.blt (i : Nat) I.2.2.1 = true) (hp : pc' = pc + 1) (kk : ac_X g I d mc ms Q ce sl pc' L' S w) : ac_X g I d mc ms Q ce sl pc L (.ref x :: S) w := by
  subst hp
  intro p e s m args below meth c X H locs ls hR hS hL
  refine lv_astore_n X.1 X.2.1 hd rfl (ac_L.lv hL) (Nat.blt_eq.mp hn) rfl (fun ls' h' => ?_)
  exact kk p e s m args below meth c X H locs ls' hR hS (ac_L.st1 hL hs h')
theorem ax_astore {i : Nat} {x : Nat} {L' : List (Option Value)} (hd : decode I.2.1 pc = .ok (.astore i, 2)) (hs : ac_st1 L i (.ref x) = some L') (hn : Nat.blt i I.2.2.1 = true) (hp : pc' = pc + 2) (kk : ac_X g I d mc ms Q ce sl pc' L' S w) : ac_X g I d mc ms Q ce sl pc L (.ref x :: S) w := by
  subst hp
  intro p e s m args below meth c X H locs ls hR hS hL
  refine lv_astore X.1 X.2.1 hd (ac_L.lv hL) (Nat.blt_eq.mp hn) rfl (fun ls' h' => ?_)
  exact kk p e s m args below meth c X H locs ls' hR hS (ac_L.st1 hL hs h')
theorem ax_lstore_n {i : Fin 4} {x : Int64} {L' : List (Option Value)} (hd : decode I.2.1 pc = .ok (.lstore_n i, 1)) (hs : ac_st2 L (i : Nat) (.long x) = some L') (hn : Nat.blt ((i : Nat) + 1) I.2.2.1 = true) (hp : pc' = pc + 1) (kk : ac_X g I d mc ms Q ce sl pc' L' S w) : ac_X g I d mc ms Q ce sl pc L (.long x :: S) w := by
  subst hp
  intro p e s m args below meth c X H locs ls hR hS hL
  refine lv_lstore_n X.1 X.2.1 hd rfl (ac_L.lv hL) (Nat.blt_eq.mp hn) rfl (fun ls' h' => ?_)
  exact kk p e s m args below meth c X H locs ls' hR hS (ac_L.st2 hL hs h')
theorem ax_lstore {i : Nat} {x : Int64} {L' : List (Option Value)} (hd : decode I.2.1 pc = .ok (.lstore i, 2)) (hs : ac_st2 L i (.long x) = some L') (hn : Nat.blt (i + 1) I.2.2.1 = true) (hp : pc' = pc + 2) (kk : ac_X g I d mc ms Q ce sl pc' L' S w) : ac_X g I d mc ms Q ce sl pc L (.long x :: S) w := by
  subst hp
  intro p e s m args below meth c X H locs ls hR hS hL
  refine lv_lstore X.1 X.2.1 hd (ac_L.lv hL) (Nat.blt_eq.mp hn) rfl (fun ls' h' => ?_)
  exact kk p e s m args below meth c X H locs ls' hR hS (ac_L.st2 hL hs h')
theorem ax_iinc {i : Nat} {n : Int} {x v : Int32} {L' : List (Option Value)} (hd : decode I.2.1 pc = .ok (.iinc i n, 3)) (hl : L[i]? = some (some (.int x))) (hv : x + Int32.ofInt n = v) (hs : ac_st1 L i (.int v) = some L') (hn : Nat.blt i I.2.2.1 = true) (hp : pc' = pc + 3) (kk : ac_X g I d mc ms Q ce sl pc' L' S w) : ac_X g I d mc ms Q ce sl pc L S w := by
  subst hp
  intro p e s m args below meth c X H locs ls hR hS hL
  obtain ⟨q, hq⟩ := ac_L.place hL hl
  refine lv_iinc X.1 X.2.1 hd (ac_L.lv hL) hq hv (Nat.blt_eq.mp hn) rfl (fun ls' h' => ?_)
  exact kk p e s m args below meth c X H locs ls' hR hS (ac_L.st1 hL hs h')
theorem ax_if_eq {x : Int32} {off : Int} {tgt : Nat} (hd : decode I.2.1 pc = .ok (.ifCond .eq off, 3)) (ht : (pc : Int) + off = (tgt : Int)) (hp : pc' = pc + 3) (kt : x = 0 → ac_X g I d mc ms Q ce sl tgt L S w) (kf : ¬ x = 0 → ac_X g I d mc ms Q ce sl pc' L S w) : ac_X g I d mc ms Q ce sl pc L (.int x :: S) w := by
  subst hp
  intro p e s m args below meth c X H locs ls hR hS hL
  exact lv_if_eq X.1 X.2.1 hd ht (fun h => kt h p e s m args below meth c X H locs ls hR hS hL) (fun h => kf h p e s m args below meth c X H locs ls hR hS hL)
theorem ax_if_ne {x : Int32} {off : Int} {tgt : Nat} (hd : decode I.2.1 pc = .ok (.ifCond .ne off, 3)) (ht : (pc : Int) + off = (tgt : Int)) (hp : pc' = pc + 3) (kt : ¬ x = 0 → ac_X g I d mc ms Q ce sl tgt L S w) (kf : x = 0 → ac_X g I d mc ms Q ce sl pc' L S w) : ac_X g I d mc ms Q ce sl pc L (.int x :: S) w := by
  subst hp
  intro p e s m args below meth c X H locs ls hR hS hL
  exact lv_if_ne X.1 X.2.1 hd ht (fun h => kt h p e s m args below meth c X H locs ls hR hS hL) (fun h => kf h p e s m args below meth c X H locs ls hR hS hL)
theorem ax_if_lt {x : Int32} {off : Int} {tgt : Nat} (hd : decode I.2.1 pc = .ok (.ifCond .lt off, 3)) (ht : (pc : Int) + off = (tgt : Int)) (hp : pc' = pc + 3) (kt : x < 0 → ac_X g I d mc ms Q ce sl tgt L S w) (kf : ¬ x < 0 → ac_X g I d mc ms Q ce sl pc' L S w) : ac_X g I d mc ms Q ce sl pc L (.int x :: S) w := by
  subst hp
  intro p e s m args below meth c X H locs ls hR hS hL
  exact lv_if_lt X.1 X.2.1 hd ht (fun h => kt h p e s m args below meth c X H locs ls hR hS hL) (fun h => kf h p e s m args below meth c X H locs ls hR hS hL)
theorem ax_if_ge {x : Int32} {off : Int} {tgt : Nat} (hd : decode I.2.1 pc = .ok (.ifCond .ge off, 3)) (ht : (pc : Int) + off = (tgt : Int)) (hp : pc' = pc + 3) (kt : 0 ≤ x → ac_X g I d mc ms Q ce sl tgt L S w) (kf : ¬ 0 ≤ x → ac_X g I d mc ms Q ce sl pc' L S w) : ac_X g I d mc ms Q ce sl pc L (.int x :: S) w := by
  subst hp
  intro p e s m args below meth c X H locs ls hR hS hL
  exact lv_if_ge X.1 X.2.1 hd ht (fun h => kt h p e s m args below meth c X H locs ls hR hS hL) (fun h => kf h p e s m args below meth c X H locs ls hR hS hL)
theorem ax_if_gt {x : Int32} {off : Int} {tgt : Nat} (hd : decode I.2.1 pc = .ok (.ifCond .gt off, 3)) (ht : (pc : Int) + off = (tgt : Int)) (hp : pc' = pc + 3) (kt : 0 < x → ac_X g I d mc ms Q ce sl tgt L S w) (kf : ¬ 0 < x → ac_X g I d mc ms Q ce sl pc' L S w) : ac_X g I d mc ms Q ce sl pc L (.int x :: S) w := by
  subst hp
  intro p e s m args below meth c X H locs ls hR hS hL
  exact lv_if_gt X.1 X.2.1 hd ht (fun h => kt h p e s m args below meth c X H locs ls hR hS hL) (fun h => kf h p e s m args below meth c X H locs ls hR hS hL)
theorem ax_if_le {x : Int32} {off : Int} {tgt : Nat} (hd : decode I.2.1 pc = .ok (.ifCond .le off, 3)) (ht : (pc : Int) + off = (tgt : Int)) (hp : pc' = pc + 3) (kt : x ≤ 0 → ac_X g I d mc ms Q ce sl tgt L S w) (kf : ¬ x ≤ 0 → ac_X g I d mc ms Q ce sl pc' L S w) : ac_X g I d mc ms Q ce sl pc L (.int x :: S) w := by
  subst hp
  intro p e s m args below meth c X H locs ls hR hS hL
  exact lv_if_le X.1 X.2.1 hd ht (fun h => kt h p e s m args below meth c X H locs ls hR hS hL) (fun h => kf h p e s m args below meth c X H locs ls hR hS hL)
theorem ax_icmp_eq {x y : Int32} {off : Int} {tgt : Nat} (hd : decode I.2.1 pc = .ok (.if_icmp .eq off, 3)) (ht : (pc : Int) + off = (tgt : Int)) (hp : pc' = pc + 3) (kt : x = y → ac_X g I d mc ms Q ce sl tgt L S w) (kf : ¬ x = y → ac_X g I d mc ms Q ce sl pc' L S w) : ac_X g I d mc ms Q ce sl pc L (.int y :: .int x :: S) w := by
  subst hp
  intro p e s m args below meth c X H locs ls hR hS hL
  exact lv_icmp_eq X.1 X.2.1 hd ht (fun h => kt h p e s m args below meth c X H locs ls hR hS hL) (fun h => kf h p e s m args below meth c X H locs ls hR hS hL)
theorem ax_icmp_ne {x y : Int32} {off : Int} {tgt : Nat} (hd : decode I.2.1 pc = .ok (.if_icmp .ne off, 3)) (ht : (pc : Int) + off = (tgt : Int)) (hp : pc' = pc + 3) (kt : ¬ x = y → ac_X g I d mc ms Q ce sl tgt L S w) (kf : x = y → ac_X g I d mc ms Q ce sl pc' L S w) : ac_X g I d mc ms Q ce sl pc L (.int y :: .int x :: S) w := by
  subst hp
  intro p e s m args below meth c X H locs ls hR hS hL
  exact lv_icmp_ne X.1 X.2.1 hd ht (fun h => kt h p e s m args below meth c X H locs ls hR hS hL) (fun h => kf h p e s m args below meth c X H locs ls hR hS hL)
theorem ax_icmp_lt {x y : Int32} {off : Int} {tgt : Nat} (hd : decode I.2.1 pc = .ok (.if_icmp .lt off, 3)) (ht : (pc : Int) + off = (tgt : Int)) (hp : pc' = pc + 3) (kt : x < y → ac_X g I d mc ms Q ce sl tgt L S w) (kf : ¬ x < y → ac_X g I d mc ms Q ce sl pc' L S w) : ac_X g I d mc ms Q ce sl pc L (.int y :: .int x :: S) w := by
  subst hp
  intro p e s m args below meth c X H locs ls hR hS hL
  exact lv_icmp_lt X.1 X.2.1 hd ht (fun h => kt h p e s m args below meth c X H locs ls hR hS hL) (fun h => kf h p e s m args below meth c X H locs ls hR hS hL)
theorem ax_icmp_ge {x y : Int32} {off : Int} {tgt : Nat} (hd : decode I.2.1 pc = .ok (.if_icmp .ge off, 3)) (ht : (pc : Int) + off = (tgt : Int)) (hp : pc' = pc + 3) (kt : y ≤ x → ac_X g I d mc ms Q ce sl tgt L S w) (kf : ¬ y ≤ x → ac_X g I d mc ms Q ce sl pc' L S w) : ac_X g I d mc ms Q ce sl pc L (.int y :: .int x :: S) w := by
  subst hp
  intro p e s m args below meth c X H locs ls hR hS hL
  exact lv_icmp_ge X.1 X.2.1 hd ht (fun h => kt h p e s m args below meth c X H locs ls hR hS hL) (fun h => kf h p e s m args below meth c X H locs ls hR hS hL)
theorem ax_icmp_gt {x y : Int32} {off : Int} {tgt : Nat} (hd : decode I.2.1 pc = .ok (.if_icmp .gt off, 3)) (ht : (pc : Int) + off = (tgt : Int)) (hp : pc' = pc + 3) (kt : y < x → ac_X g I d mc ms Q ce sl tgt L S w) (kf : ¬ y < x → ac_X g I d mc ms Q ce sl pc' L S w) : ac_X g I d mc ms Q ce sl pc L (.int y :: .int x :: S) w := by
  subst hp
  intro p e s m args below meth c X H locs ls hR hS hL
  exact lv_icmp_gt X.1 X.2.1 hd ht (fun h => kt h p e s m args below meth c X H locs ls hR hS hL) (fun h => kf h p e s m args below meth c X H locs ls hR hS hL)
theorem ax_icmp_le {x y : Int32} {off : Int} {tgt : Nat} (hd : decode I.2.1 pc = .ok (.if_icmp .le off, 3)) (ht : (pc : Int) + off = (tgt : Int)) (hp : pc' = pc + 3) (kt : x ≤ y → ac_X g I d mc ms Q ce sl tgt L S w) (kf : ¬ x ≤ y → ac_X g I d mc ms Q ce sl pc' L S w) : ac_X g I d mc ms Q ce sl pc L (.int y :: .int x :: S) w := by
  subst hp
  intro p e s m args below meth c X H locs ls hR hS hL
  exact lv_icmp_le X.1 X.2.1 hd ht (fun h => kt h p e s m args below meth c X H locs ls hR hS hL) (fun h => kf h p e s m args below meth c X H locs ls hR hS hL)
theorem ax_goto {off : Int} {tgt : Nat} (hd : decode I.2.1 pc = .ok (.goto off, 3)) (ht : (pc : Int) + off = (tgt : Int)) (kk : ac_X g I d mc ms Q ce sl tgt L S w) : ac_X g I d mc ms Q ce sl pc L S w := by
  intro p e s m args below meth c X H locs ls hR hS hL
  exact lv_goto X.1 X.2.1 hd ht (kk p e s m args below meth c X H locs ls hR hS hL)
theorem ax_lookup {dflt : Int} {ps : Array (Int × Int)} {len : Nat} {x : Int32} {off : Int} {tgt : Nat} (hd : decode I.2.1 pc = .ok (.lookupswitch dflt ps, len)) (hps : (ps.toList.zip (ps.toList.drop 1)).all (fun (a, next) => a.1 < next.1) = true) (ho : Op.lookupswitch.offset ps.toList dflt x.toInt = off) (ht : (pc : Int) + off = (tgt : Int)) (kk : ac_X g I d mc ms Q ce sl tgt L S w) : ac_X g I d mc ms Q ce sl pc L (.int x :: S) w := by
  intro p e s m args below meth c X H locs ls hR hS hL
  exact lv_lookup X.1 X.2.1 hd hps ho ht (kk p e s m args below meth c X H locs ls hR hS hL)
theorem ax_tableOut {dflt lo hi : Int} {offs : Array Int} {len : Nat} {x : Int32} {tgt : Nat} (hd : decode I.2.1 pc = .ok (.tableswitch dflt lo hi offs, len)) (h : x.toInt < lo ∨ hi < x.toInt) (ht : (pc : Int) + dflt = (tgt : Int)) (kk : ac_X g I d mc ms Q ce sl tgt L S w) : ac_X g I d mc ms Q ce sl pc L (.int x :: S) w := by
  intro p e s m args below meth c X H locs ls hR hS hL
  exact lv_tableOut X.1 X.2.1 hd h ht (kk p e s m args below meth c X H locs ls hR hS hL)
theorem ax_tableIn {dflt lo hi : Int} {offs : Array Int} {len : Nat} {x : Int32} {off : Int} {tgt : Nat} (hd : decode I.2.1 pc = .ok (.tableswitch dflt lo hi offs, len)) (h1 : ¬ x.toInt < lo) (h2 : ¬ hi < x.toInt) (ho : offs[(x.toInt - lo).toNat]? = some off) (ht : (pc : Int) + off = (tgt : Int)) (kk : ac_X g I d mc ms Q ce sl tgt L S w) : ac_X g I d mc ms Q ce sl pc L (.int x :: S) w := by
  intro p e s m args below meth c X H locs ls hR hS hL
  exact lv_tableIn X.1 X.2.1 hd h1 h2 ho ht (kk p e s m args below meth c X H locs ls hR hS hL)
theorem ax_topi {x : Int32} (kk : ∀ y : Int32, y = x → ac_X g I d mc ms Q ce sl pc L (.int y :: S) w) : ac_X g I d mc ms Q ce sl pc L (.int x :: S) w := kk x rfl
theorem ax_topl {x : Int64} (kk : ∀ y : Int64, y = x → ac_X g I d mc ms Q ce sl pc L (.long y :: S) w) : ac_X g I d mc ms Q ce sl pc L (.long x :: S) w := kk x rfl
/-- fewer locals are known -/
theorem ax_drop (i : Nat) {L' : List (Option Value)} (h : L.set i none = L') (kk : ac_X g I d mc ms Q ce sl pc L' S w) : ac_X g I d mc ms Q ce sl pc L S w := by
  intro p e s m args below meth c X H locs ls hR hS hL
  exact kk p e s m args below meth c X H locs ls hR hS (h ▸ ac_L.drop hL)
theorem ax_eq {L' : List (Option Value)} {S' : List Value} {w' : ac_W} (h1 : L = L') (h2 : S = S') (h3 : w = w') (kk : ac_X g I d mc ms Q ce sl pc L' S' w') : ac_X g I d mc ms Q ce sl pc L S w := by
  subst h1; subst h2; subst h3
  exact kk
theorem ax_widen {ce' sl' : Nat} (h1 : ce ≤ ce') (h2 : sl ≤ sl') (kk : ac_X g I d mc ms Q ce' sl' pc L S w) : ac_X g I d mc ms Q ce sl pc L S w := by
  intro p e s m args below meth c X H locs ls hR hS hL
  exact W.widen h1 h2 (kk p e s m args below meth c X H locs ls hR hS hL)
end AXR
