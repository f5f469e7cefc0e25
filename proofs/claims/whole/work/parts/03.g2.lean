section GR
variable {S : gSd} {E : gE} {own : String} {cc : ByteArray} {nL : Nat} {ret : Option FieldType} {d : Nat} {Q : State → Prop} {pc : Nat} {L L' : List (Option Value)} {st : List Value} {σ : gS}
theorem G_iconst (C : gCx S E own cc nL ret d) (pc' : Nat) {n : Int} {v : Int32} (hd : decode cc pc = .ok (.iconst n, 1)) (hp : pc + 1 = pc') (hv : Int32.ofInt n = v) (k : GW S E Q pc' L (.int v :: st) σ) : GW S E Q pc L st σ := by
  subst hp
  exact fun H locs ls hP hS hl hz => lv_iconst C.1 C.2.1 hd hv (k H locs ls hP hS hl hz)
theorem G_bipush (C : gCx S E own cc nL ret d) (pc' : Nat) {n : Int} {v : Int32} (hd : decode cc pc = .ok (.bipush n, 2)) (hp : pc + 2 = pc') (hv : (Int8.ofInt n).toInt32 = v) (k : GW S E Q pc' L (.int v :: st) σ) : GW S E Q pc L st σ := by
  subst hp
  exact fun H locs ls hP hS hl hz => lv_bipush C.1 C.2.1 hd hv (k H locs ls hP hS hl hz)
theorem G_sipush (C : gCx S E own cc nL ret d) (pc' : Nat) {n : Int} {v : Int32} (hd : decode cc pc = .ok (.sipush n, 3)) (hp : pc + 3 = pc') (hv : (Int16.ofInt n).toInt32 = v) (k : GW S E Q pc' L (.int v :: st) σ) : GW S E Q pc L st σ := by
  subst hp
  exact fun H locs ls hP hS hl hz => lv_sipush C.1 C.2.1 hd hv (k H locs ls hP hS hl hz)
theorem G_lconst (C : gCx S E own cc nL ret d) (pc' : Nat) {n : Fin 2} {v : Int64} (hd : decode cc pc = .ok (.lconst n, 1)) (hp : pc + 1 = pc') (hv : Int64.ofNat (n : Nat) = v) (k : GW S E Q pc' L (.long v :: st) σ) : GW S E Q pc L st σ := by
  subst hp
  exact fun H locs ls hP hS hl hz => lv_lconst C.1 C.2.1 hd hv (k H locs ls hP hS hl hz)
theorem G_iload_n (C : gCx S E own cc nL ret d) (pc' : Nat) {kk : Fin 4} {i : Nat} {x : Int32} (hd : decode cc pc = .ok (.iload_n kk, 1)) (hp : pc + 1 = pc') (hi : (kk : Nat) = i) (hL : L[i]? = some (some (.int x))) (k : GW S E Q pc' L (.int x :: st) σ) : GW S E Q pc L st σ := by
  subst hp
  exact fun H locs ls hP hS hl hz => lv_iload_n C.1 C.2.1 hd hi (lvx_at hl hL) (k H locs ls hP hS hl hz)
theorem G_iload (C : gCx S E own cc nL ret d) (pc' : Nat) {i : Nat} {x : Int32} (hd : decode cc pc = .ok (.iload i, 2)) (hp : pc + 2 = pc') (hL : L[i]? = some (some (.int x))) (k : GW S E Q pc' L (.int x :: st) σ) : GW S E Q pc L st σ := by
  subst hp
  exact fun H locs ls hP hS hl hz => lv_iload C.1 C.2.1 hd (lvx_at hl hL) (k H locs ls hP hS hl hz)
theorem G_lload_n (C : gCx S E own cc nL ret d) (pc' : Nat) {kk : Fin 4} {i : Nat} {x : Int64} (hd : decode cc pc = .ok (.lload_n kk, 1)) (hp : pc + 1 = pc') (hi : (kk : Nat) = i) (hL : L[i]? = some (some (.long x))) (k : GW S E Q pc' L (.long x :: st) σ) : GW S E Q pc L st σ := by
  subst hp
  exact fun H locs ls hP hS hl hz => lv_lload_n C.1 C.2.1 hd hi (lvx_at hl hL) (k H locs ls hP hS hl hz)
theorem G_lload (C : gCx S E own cc nL ret d) (pc' : Nat) {i : Nat} {x : Int64} (hd : decode cc pc = .ok (.lload i, 2)) (hp : pc + 2 = pc') (hL : L[i]? = some (some (.long x))) (k : GW S E Q pc' L (.long x :: st) σ) : GW S E Q pc L st σ := by
  subst hp
  exact fun H locs ls hP hS hl hz => lv_lload C.1 C.2.1 hd (lvx_at hl hL) (k H locs ls hP hS hl hz)
theorem G_aload_n (C : gCx S E own cc nL ret d) (pc' : Nat) {kk : Fin 4} {i : Nat} {x : Nat} (hd : decode cc pc = .ok (.aload_n kk, 1)) (hp : pc + 1 = pc') (hi : (kk : Nat) = i) (hL : L[i]? = some (some (.ref x))) (k : GW S E Q pc' L (.ref x :: st) σ) : GW S E Q pc L st σ := by
  subst hp
  exact fun H locs ls hP hS hl hz => lv_aload_n C.1 C.2.1 hd hi (lvx_at hl hL) (k H locs ls hP hS hl hz)
theorem G_aload (C : gCx S E own cc nL ret d) (pc' : Nat) {i : Nat} {x : Nat} (hd : decode cc pc = .ok (.aload i, 2)) (hp : pc + 2 = pc') (hL : L[i]? = some (some (.ref x))) (k : GW S E Q pc' L (.ref x :: st) σ) : GW S E Q pc L st σ := by
  subst hp
  exact fun H locs ls hP hS hl hz => lv_aload C.1 C.2.1 hd (lvx_at hl hL) (k H locs ls hP hS hl hz)
theorem G_istore_n (C : gCx S E own cc nL ret d) (pc' : Nat) {kk : Fin 4} {i : Nat} {x : Int32} (hd : decode cc pc = .ok (.istore_n kk, 1)) (hp : pc + 1 = pc') (hi : (kk : Nat) = i) (hn : i < L.length) (hL : L.set i (some (.int x)) = L') (hc : g_ok1 L i = true) (k : GW S E Q pc' L' st σ) : GW S E Q pc L (.int x :: st) σ := by
  subst hp
  exact fun H locs ls hP hS hl hz => lv_istore_n C.1 C.2.1 hd hi hl hn rfl (fun ls' h' => k H locs ls' hP hS (lvx_set hL hc h') hz)
theorem G_istore (C : gCx S E own cc nL ret d) (pc' : Nat) {i : Nat} {x : Int32} (hd : decode cc pc = .ok (.istore i, 2)) (hp : pc + 2 = pc') (hn : i < L.length) (hL : L.set i (some (.int x)) = L') (hc : g_ok1 L i = true) (k : GW S E Q pc' L' st σ) : GW S E Q pc L (.int x :: st) σ := by
  subst hp
  exact fun H locs ls hP hS hl hz => lv_istore C.1 C.2.1 hd hl hn rfl (fun ls' h' => k H locs ls' hP hS (lvx_set hL hc h') hz)
theorem G_astore_n (C : gCx S E own cc nL ret d) (pc' : Nat) {kk : Fin 4} {i : Nat} {x : Nat} (hd : decode cc pc = .ok (.astore_n kk, 1)) (hp : pc + 1 = pc') (hi : (kk : Nat) = i) (hn : i < L.length) (hL : L.set i (some (.ref x)) = L') (hc : g_ok1 L i = true) (k : GW S E Q pc' L' st σ) : GW S E Q pc L (.ref x :: st) σ := by
  subst hp
  exact fun H locs ls hP hS hl hz => lv_astore_n C.1 C.2.1 hd hi hl hn rfl (fun ls' h' => k H locs ls' hP hS (lvx_set hL hc h') hz)
theorem G_astore (C : gCx S E own cc nL ret d) (pc' : Nat) {i : Nat} {x : Nat} (hd : decode cc pc = .ok (.astore i, 2)) (hp : pc + 2 = pc') (hn : i < L.length) (hL : L.set i (some (.ref x)) = L') (hc : g_ok1 L i = true) (k : GW S E Q pc' L' st σ) : GW S E Q pc L (.ref x :: st) σ := by
  subst hp
  exact fun H locs ls hP hS hl hz => lv_astore C.1 C.2.1 hd hl hn rfl (fun ls' h' => k H locs ls' hP hS (lvx_set hL hc h') hz)
theorem G_lstore_n (C : gCx S E own cc nL ret d) (pc' : Nat) {kk : Fin 4} {i : Nat} {x : Int64} (hd : decode cc pc = .ok (.lstore_n kk, 1)) (hp : pc + 1 = pc') (hi : (kk : Nat) = i) (hn : i + 1 < L.length) (hL : (L.set i (some (.long x))).set (i + 1) none = L') (hc : g_ok1 L i = true) (k : GW S E Q pc' L' st σ) : GW S E Q pc L (.long x :: st) σ := by
  subst hp
  exact fun H locs ls hP hS hl hz => lv_lstore_n C.1 C.2.1 hd hi hl hn rfl (fun ls' h' => k H locs ls' hP hS (lvx_set2 hL hc h') hz)
theorem G_lstore (C : gCx S E own cc nL ret d) (pc' : Nat) {i : Nat} {x : Int64} (hd : decode cc pc = .ok (.lstore i, 2)) (hp : pc + 2 = pc') (hn : i + 1 < L.length) (hL : (L.set i (some (.long x))).set (i + 1) none = L') (hc : g_ok1 L i = true) (k : GW S E Q pc' L' st σ) : GW S E Q pc L (.long x :: st) σ := by
  subst hp
  exact fun H locs ls hP hS hl hz => lv_lstore C.1 C.2.1 hd hl hn rfl (fun ls' h' => k H locs ls' hP hS (lvx_set2 hL hc h') hz)
theorem G_iinc (C : gCx S E own cc nL ret d) (pc' : Nat) {i : Nat} {n : Int} {x w : Int32} (hd : decode cc pc = .ok (.iinc i n, 3)) (hp : pc + 3 = pc') (hi : L[i]? = some (some (.int x))) (hw : Int32.ofInt n = w) (hc : g_ok1 L i = true) (k : ∀ v : Int32, v = x + w → GW S E Q pc' (L.set i (some (.int v))) st σ) : GW S E Q pc L st σ := by
  subst hp
  intro H locs ls hP hS hl hz
  obtain ⟨q, hq⟩ := List.getElem?_of_mem (gl_mem0.mpr hi)
  have hn : i < L.length := (List.getElem?_eq_some_iff.mp hi).1
  exact lv_iinc C.1 C.2.1 hd hl hq (by rw [hw]) hn rfl (fun ls' h' => k _ rfl H locs ls' hP hS (lvx_set rfl hc h') hz)
theorem G_iadd (C : gCx S E own cc nL ret d) (pc' : Nat) {x y : Int32} (hd : decode cc pc = .ok (.iadd, 1)) (hp : pc + 1 = pc') (k : ∀ v : Int32, v = x + y → GW S E Q pc' L (.int v :: st) σ) : GW S E Q pc L (.int y :: .int x :: st) σ := by
  subst hp
  exact fun H locs ls hP hS hl hz => lv_iadd C.1 C.2.1 hd (k _ rfl H locs ls hP hS hl hz)
theorem G_isub (C : gCx S E own cc nL ret d) (pc' : Nat) {x y : Int32} (hd : decode cc pc = .ok (.isub, 1)) (hp : pc + 1 = pc') (k : ∀ v : Int32, v = x - y → GW S E Q pc' L (.int v :: st) σ) : GW S E Q pc L (.int y :: .int x :: st) σ := by
  subst hp
  exact fun H locs ls hP hS hl hz => lv_isub C.1 C.2.1 hd (k _ rfl H locs ls hP hS hl hz)
theorem G_imul (C : gCx S E own cc nL ret d) (pc' : Nat) {x y : Int32} (hd : decode cc pc = .ok (.imul, 1)) (hp : pc + 1 = pc') (k : ∀ v : Int32, v = x * y → GW S E Q pc' L (.int v :: st) σ) : GW S E Q pc L (.int y :: .int x :: st) σ := by
  subst hp
  exact fun H locs ls hP hS hl hz => lv_imul C.1 C.2.1 hd (k _ rfl H locs ls hP hS hl hz)
theorem G_iand (C : gCx S E own cc nL ret d) (pc' : Nat) {x y : Int32} (hd : decode cc pc = .ok (.iand, 1)) (hp : pc + 1 = pc') (k : ∀ v : Int32, v = x &&& y → GW S E Q pc' L (.int v :: st) σ) : GW S E Q pc L (.int y :: .int x :: st) σ := by
  subst hp
  exact fun H locs ls hP hS hl hz => lv_iand C.1 C.2.1 hd (k _ rfl H locs ls hP hS hl hz)
theorem G_ior (C : gCx S E own cc nL ret d) (pc' : Nat) {x y : Int32} (hd : decode cc pc = .ok (.ior, 1)) (hp : pc + 1 = pc') (k : ∀ v : Int32, v = x ||| y → GW S E Q pc' L (.int v :: st) σ) : GW S E Q pc L (.int y :: .int x :: st) σ := by
  subst hp
  exact fun H locs ls hP hS hl hz => lv_ior C.1 C.2.1 hd (k _ rfl H locs ls hP hS hl hz)
theorem G_ixor (C : gCx S E own cc nL ret d) (pc' : Nat) {x y : Int32} (hd : decode cc pc = .ok (.ixor, 1)) (hp : pc + 1 = pc') (k : ∀ v : Int32, v = x ^^^ y → GW S E Q pc' L (.int v :: st) σ) : GW S E Q pc L (.int y :: .int x :: st) σ := by
  subst hp
  exact fun H locs ls hP hS hl hz => lv_ixor C.1 C.2.1 hd (k _ rfl H locs ls hP hS hl hz)
theorem G_ishl (C : gCx S E own cc nL ret d) (pc' : Nat) {x y : Int32} (hd : decode cc pc = .ok (.ishl, 1)) (hp : pc + 1 = pc') (k : ∀ v : Int32, v = x <<< (y &&& 31) → GW S E Q pc' L (.int v :: st) σ) : GW S E Q pc L (.int y :: .int x :: st) σ := by
  subst hp
  exact fun H locs ls hP hS hl hz => lv_ishl C.1 C.2.1 hd (k _ rfl H locs ls hP hS hl hz)
theorem G_ishr (C : gCx S E own cc nL ret d) (pc' : Nat) {x y : Int32} (hd : decode cc pc = .ok (.ishr, 1)) (hp : pc + 1 = pc') (k : ∀ v : Int32, v = x >>> (y &&& 31) → GW S E Q pc' L (.int v :: st) σ) : GW S E Q pc L (.int y :: .int x :: st) σ := by
  subst hp
  exact fun H locs ls hP hS hl hz => lv_ishr C.1 C.2.1 hd (k _ rfl H locs ls hP hS hl hz)
theorem G_iushr (C : gCx S E own cc nL ret d) (pc' : Nat) {x y : Int32} (hd : decode cc pc = .ok (.iushr, 1)) (hp : pc + 1 = pc') (k : ∀ v : Int32, v = (x.toUInt32 >>> (y.toUInt32 &&& Int32.toUInt32 31)).toInt32 → GW S E Q pc' L (.int v :: st) σ) : GW S E Q pc L (.int y :: .int x :: st) σ := by
  subst hp
  exact fun H locs ls hP hS hl hz => lv_iushr C.1 C.2.1 hd rfl (k _ rfl H locs ls hP hS hl hz)
theorem G_idiv (C : gCx S E own cc nL ret d) (pc' : Nat) {x y : Int32} (hd : decode cc pc = .ok (.idiv, 1)) (hp : pc + 1 = pc') (hy : ¬ y = 0) (k : ∀ v : Int32, v = x / y → GW S E Q pc' L (.int v :: st) σ) : GW S E Q pc L (.int y :: .int x :: st) σ := by
  subst hp
  exact fun H locs ls hP hS hl hz => lv_idiv C.1 C.2.1 hd hy (k _ rfl H locs ls hP hS hl hz)
theorem G_irem (C : gCx S E own cc nL ret d) (pc' : Nat) {x y : Int32} (hd : decode cc pc = .ok (.irem, 1)) (hp : pc + 1 = pc') (hy : ¬ y = 0) (k : ∀ v : Int32, v = x - x / y * y → GW S E Q pc' L (.int v :: st) σ) : GW S E Q pc L (.int y :: .int x :: st) σ := by
  subst hp
  exact fun H locs ls hP hS hl hz => lv_irem C.1 C.2.1 hd hy (k _ rfl H locs ls hP hS hl hz)
theorem G_ladd (C : gCx S E own cc nL ret d) (pc' : Nat) {x y : Int64} (hd : decode cc pc = .ok (.ladd, 1)) (hp : pc + 1 = pc') (k : ∀ v : Int64, v = x + y → GW S E Q pc' L (.long v :: st) σ) : GW S E Q pc L (.long y :: .long x :: st) σ := by
  subst hp
  exact fun H locs ls hP hS hl hz => lv_ladd C.1 C.2.1 hd (k _ rfl H locs ls hP hS hl hz)
theorem G_lmul (C : gCx S E own cc nL ret d) (pc' : Nat) {x y : Int64} (hd : decode cc pc = .ok (.lmul, 1)) (hp : pc + 1 = pc') (k : ∀ v : Int64, v = x * y → GW S E Q pc' L (.long v :: st) σ) : GW S E Q pc L (.long y :: .long x :: st) σ := by
  subst hp
  exact fun H locs ls hP hS hl hz => lv_lmul C.1 C.2.1 hd (k _ rfl H locs ls hP hS hl hz)
theorem G_ldiv (C : gCx S E own cc nL ret d) (pc' : Nat) {x y : Int64} (hd : decode cc pc = .ok (.ldiv, 1)) (hp : pc + 1 = pc') (hy : ¬ y = 0) (k : ∀ v : Int64, v = x / y → GW S E Q pc' L (.long v :: st) σ) : GW S E Q pc L (.long y :: .long x :: st) σ := by
  subst hp
  exact fun H locs ls hP hS hl hz => lv_ldiv C.1 C.2.1 hd hy (k _ rfl H locs ls hP hS hl hz)
theorem G_lrem (C : gCx S E own cc nL ret d) (pc' : Nat) {x y : Int64} (hd : decode cc pc = .ok (.lrem, 1)) (hp : pc + 1 = pc') (hy : ¬ y = 0) (k : ∀ v : Int64, v = x - x / y * y → GW S E Q pc' L (.long v :: st) σ) : GW S E Q pc L (.long y :: .long x :: st) σ := by
  subst hp
  exact fun H locs ls hP hS hl hz => lv_lrem C.1 C.2.1 hd hy (k _ rfl H locs ls hP hS hl hz)
theorem G_lcmp (C : gCx S E own cc nL ret d) (pc' : Nat) {x y : Int64} (hd : decode cc pc = .ok (.lcmp, 1)) (hp : pc + 1 = pc') (k : ∀ v : Int32, v = lg_cmp x y → GW S E Q pc' L (.int v :: st) σ) : GW S E Q pc L (.long y :: .long x :: st) σ := by
  subst hp
  exact fun H locs ls hP hS hl hz => W.lcmp C.1 C.2.1 hd (k _ rfl H locs ls hP hS hl hz)
theorem G_ineg (C : gCx S E own cc nL ret d) (pc' : Nat) {x : Int32} (hd : decode cc pc = .ok (.ineg, 1)) (hp : pc + 1 = pc') (k : ∀ v : Int32, v = -x → GW S E Q pc' L (.int v :: st) σ) : GW S E Q pc L (.int x :: st) σ := by
  subst hp
  exact fun H locs ls hP hS hl hz => lv_ineg C.1 C.2.1 hd (k _ rfl H locs ls hP hS hl hz)
theorem G_i2l (C : gCx S E own cc nL ret d) (pc' : Nat) {x : Int32} (hd : decode cc pc = .ok (.i2l, 1)) (hp : pc + 1 = pc') (k : ∀ v : Int64, v = x.toInt64 → GW S E Q pc' L (.long v :: st) σ) : GW S E Q pc L (.int x :: st) σ := by
  subst hp
  exact fun H locs ls hP hS hl hz => lv_i2l C.1 C.2.1 hd rfl (k _ rfl H locs ls hP hS hl hz)
theorem G_l2i (C : gCx S E own cc nL ret d) (pc' : Nat) {x : Int64} (hd : decode cc pc = .ok (.l2i, 1)) (hp : pc + 1 = pc') (k : ∀ v : Int32, v = x.toInt32 → GW S E Q pc' L (.int v :: st) σ) : GW S E Q pc L (.long x :: st) σ := by
  subst hp
  exact fun H locs ls hP hS hl hz => lv_l2i C.1 C.2.1 hd rfl (k _ rfl H locs ls hP hS hl hz)
theorem G_i2b (C : gCx S E own cc nL ret d) (pc' : Nat) {x : Int32} (hd : decode cc pc = .ok (.i2b, 1)) (hp : pc + 1 = pc') (k : ∀ v : Int32, v = x.toInt8.toInt32 → GW S E Q pc' L (.int v :: st) σ) : GW S E Q pc L (.int x :: st) σ := by
  subst hp
  exact fun H locs ls hP hS hl hz => lv_i2b C.1 C.2.1 hd rfl (k _ rfl H locs ls hP hS hl hz)
theorem G_i2s (C : gCx S E own cc nL ret d) (pc' : Nat) {x : Int32} (hd : decode cc pc = .ok (.i2s, 1)) (hp : pc + 1 = pc') (k : ∀ v : Int32, v = x.toInt16.toInt32 → GW S E Q pc' L (.int v :: st) σ) : GW S E Q pc L (.int x :: st) σ := by
  subst hp
  exact fun H locs ls hP hS hl hz => lv_i2s C.1 C.2.1 hd rfl (k _ rfl H locs ls hP hS hl hz)
theorem G_i2c (C : gCx S E own cc nL ret d) (pc' : Nat) {x : Int32} (hd : decode cc pc = .ok (.i2c, 1)) (hp : pc + 1 = pc') (k : ∀ v : Int32, v = (x.toUInt32 % 65536).toInt32 → GW S E Q pc' L (.int v :: st) σ) : GW S E Q pc L (.int x :: st) σ := by
  subst hp
  exact fun H locs ls hP hS hl hz => lv_i2c C.1 C.2.1 hd rfl (k _ rfl H locs ls hP hS hl hz)
theorem G_dup (C : gCx S E own cc nL ret d) (pc' : Nat) {v : Value} (hd : decode cc pc = .ok (.dup, 1)) (hp : pc + 1 = pc') (hv : v.category = 1) (k : GW S E Q pc' L (v :: v :: st) σ) : GW S E Q pc L (v :: st) σ := by
  subst hp
  exact fun H locs ls hP hS hl hz => lv_dup C.1 C.2.1 hd hv (k H locs ls hP hS hl hz)
theorem G_pop (C : gCx S E own cc nL ret d) (pc' : Nat) {v : Value} (hd : decode cc pc = .ok (.pop, 1)) (hp : pc + 1 = pc') (hv : v.category = 1) (k : GW S E Q pc' L st σ) : GW S E Q pc L (v :: st) σ := by
  subst hp
  exact fun H locs ls hP hS hl hz => lv_pop C.1 C.2.1 hd hv (k H locs ls hP hS hl hz)
theorem G_dup_x1 (C : gCx S E own cc nL ret d) (pc' : Nat) {v w : Value} (hd : decode cc pc = .ok (.dup_x1, 1)) (hp : pc + 1 = pc') (hv : v.category = 1) (hw : w.category = 1) (k : GW S E Q pc' L (v :: w :: v :: st) σ) : GW S E Q pc L (v :: w :: st) σ := by
  subst hp
  exact fun H locs ls hP hS hl hz => lv_dup_x1 C.1 C.2.1 hd hv hw (k H locs ls hP hS hl hz)
theorem G_dup2 (C : gCx S E own cc nL ret d) (pc' : Nat) {v w : Value} (hd : decode cc pc = .ok (.dup2, 1)) (hp : pc + 1 = pc') (hv : v.category = 1) (hw : w.category = 1) (k : GW S E Q pc' L (v :: w :: v :: w :: st) σ) : GW S E Q pc L (v :: w :: st) σ := by
  subst hp
  exact fun H locs ls hP hS hl hz => lv_dup2_11 C.1 C.2.1 hd hv hw (k H locs ls hP hS hl hz)
theorem G_goto (C : gCx S E own cc nL ret d) (tgt : Nat) {off : Int} (hd : decode cc pc = .ok (.goto off, 3)) (ht : (pc : Int) + off = (tgt : Int)) (k : GW S E Q tgt L st σ) : GW S E Q pc L st σ :=
  fun H locs ls hP hS hl hz => lv_goto C.1 C.2.1 hd ht (k H locs ls hP hS hl hz)
theorem G_if_eq (C : gCx S E own cc nL ret d) (tgt pc' : Nat) {x : Int32} {off : Int} (hd : decode cc pc = .ok (.ifCond .eq off, 3)) (ht : (pc : Int) + off = (tgt : Int)) (hp : pc + 3 = pc') (kt : x = 0 → GW S E Q tgt L st σ) (kf : ¬ x = 0 → GW S E Q pc' L st σ) : GW S E Q pc L (.int x :: st) σ := by
  subst hp
  exact fun H locs ls hP hS hl hz => lv_if_eq C.1 C.2.1 hd ht (fun h => (kt) h H locs ls hP hS hl hz) (fun h => (kf) h H locs ls hP hS hl hz)
theorem G_if_ne (C : gCx S E own cc nL ret d) (tgt pc' : Nat) {x : Int32} {off : Int} (hd : decode cc pc = .ok (.ifCond .ne off, 3)) (ht : (pc : Int) + off = (tgt : Int)) (hp : pc + 3 = pc') (kt : ¬ x = 0 → GW S E Q tgt L st σ) (kf : x = 0 → GW S E Q pc' L st σ) : GW S E Q pc L (.int x :: st) σ := by
  subst hp
  exact fun H locs ls hP hS hl hz => lv_if_ne C.1 C.2.1 hd ht (fun h => (kt) h H locs ls hP hS hl hz) (fun h => (kf) h H locs ls hP hS hl hz)
theorem G_if_lt (C : gCx S E own cc nL ret d) (tgt pc' : Nat) {x : Int32} {off : Int} (hd : decode cc pc = .ok (.ifCond .lt off, 3)) (ht : (pc : Int) + off = (tgt : Int)) (hp : pc + 3 = pc') (kt : x < 0 → GW S E Q tgt L st σ) (kf : ¬ x < 0 → GW S E Q pc' L st σ) : GW S E Q pc L (.int x :: st) σ := by
  subst hp
  exact fun H locs ls hP hS hl hz => lv_if_lt C.1 C.2.1 hd ht (fun h => (kt) h H locs ls hP hS hl hz) (fun h => (kf) h H locs ls hP hS hl hz)
theorem G_if_ge (C : gCx S E own cc nL ret d) (tgt pc' : Nat) {x : Int32} {off : Int} (hd : decode cc pc = .ok (.ifCond .ge off, 3)) (ht : (pc : Int) + off = (tgt : Int)) (hp : pc + 3 = pc') (kt : ¬ x < 0 → GW S E Q tgt L st σ) (kf : x < 0 → GW S E Q pc' L st σ) : GW S E Q pc L (.int x :: st) σ := by
  subst hp
  exact fun H locs ls hP hS hl hz => lv_if_ge C.1 C.2.1 hd ht (fun h => (fun h => kt (Int32.not_lt.mpr h)) h H locs ls hP hS hl hz) (fun h => (fun h => kf (Int32.not_le.mp h)) h H locs ls hP hS hl hz)
theorem G_if_gt (C : gCx S E own cc nL ret d) (tgt pc' : Nat) {x : Int32} {off : Int} (hd : decode cc pc = .ok (.ifCond .gt off, 3)) (ht : (pc : Int) + off = (tgt : Int)) (hp : pc + 3 = pc') (kt : 0 < x → GW S E Q tgt L st σ) (kf : ¬ 0 < x → GW S E Q pc' L st σ) : GW S E Q pc L (.int x :: st) σ := by
  subst hp
  exact fun H locs ls hP hS hl hz => lv_if_gt C.1 C.2.1 hd ht (fun h => (kt) h H locs ls hP hS hl hz) (fun h => (kf) h H locs ls hP hS hl hz)
theorem G_if_le (C : gCx S E own cc nL ret d) (tgt pc' : Nat) {x : Int32} {off : Int} (hd : decode cc pc = .ok (.ifCond .le off, 3)) (ht : (pc : Int) + off = (tgt : Int)) (hp : pc + 3 = pc') (kt : ¬ 0 < x → GW S E Q tgt L st σ) (kf : 0 < x → GW S E Q pc' L st σ) : GW S E Q pc L (.int x :: st) σ := by
  subst hp
  exact fun H locs ls hP hS hl hz => lv_if_le C.1 C.2.1 hd ht (fun h => (fun h => kt (Int32.not_lt.mpr h)) h H locs ls hP hS hl hz) (fun h => (fun h => kf (Int32.not_le.mp h)) h H locs ls hP hS hl hz)
theorem G_icmp_eq (C : gCx S E own cc nL ret d) (tgt pc' : Nat) {x y : Int32} {off : Int} (hd : decode cc pc = .ok (.if_icmp .eq off, 3)) (ht : (pc : Int) + off = (tgt : Int)) (hp : pc + 3 = pc') (kt : x = y → GW S E Q tgt L st σ) (kf : ¬ x = y → GW S E Q pc' L st σ) : GW S E Q pc L (.int y :: .int x :: st) σ := by
  subst hp
  exact fun H locs ls hP hS hl hz => lv_icmp_eq C.1 C.2.1 hd ht (fun h => (kt) h H locs ls hP hS hl hz) (fun h => (kf) h H locs ls hP hS hl hz)
theorem G_icmp_ne (C : gCx S E own cc nL ret d) (tgt pc' : Nat) {x y : Int32} {off : Int} (hd : decode cc pc = .ok (.if_icmp .ne off, 3)) (ht : (pc : Int) + off = (tgt : Int)) (hp : pc + 3 = pc') (kt : ¬ x = y → GW S E Q tgt L st σ) (kf : x = y → GW S E Q pc' L st σ) : GW S E Q pc L (.int y :: .int x :: st) σ := by
  subst hp
  exact fun H locs ls hP hS hl hz => lv_icmp_ne C.1 C.2.1 hd ht (fun h => (kt) h H locs ls hP hS hl hz) (fun h => (kf) h H locs ls hP hS hl hz)
theorem G_icmp_lt (C : gCx S E own cc nL ret d) (tgt pc' : Nat) {x y : Int32} {off : Int} (hd : decode cc pc = .ok (.if_icmp .lt off, 3)) (ht : (pc : Int) + off = (tgt : Int)) (hp : pc + 3 = pc') (kt : x < y → GW S E Q tgt L st σ) (kf : ¬ x < y → GW S E Q pc' L st σ) : GW S E Q pc L (.int y :: .int x :: st) σ := by
  subst hp
  exact fun H locs ls hP hS hl hz => lv_icmp_lt C.1 C.2.1 hd ht (fun h => (kt) h H locs ls hP hS hl hz) (fun h => (kf) h H locs ls hP hS hl hz)
theorem G_icmp_ge (C : gCx S E own cc nL ret d) (tgt pc' : Nat) {x y : Int32} {off : Int} (hd : decode cc pc = .ok (.if_icmp .ge off, 3)) (ht : (pc : Int) + off = (tgt : Int)) (hp : pc + 3 = pc') (kt : ¬ x < y → GW S E Q tgt L st σ) (kf : x < y → GW S E Q pc' L st σ) : GW S E Q pc L (.int y :: .int x :: st) σ := by
  subst hp
  exact fun H locs ls hP hS hl hz => lv_icmp_ge C.1 C.2.1 hd ht (fun h => (fun h => kt (Int32.not_lt.mpr h)) h H locs ls hP hS hl hz) (fun h => (fun h => kf (Int32.not_le.mp h)) h H locs ls hP hS hl hz)
theorem G_icmp_gt (C : gCx S E own cc nL ret d) (tgt pc' : Nat) {x y : Int32} {off : Int} (hd : decode cc pc = .ok (.if_icmp .gt off, 3)) (ht : (pc : Int) + off = (tgt : Int)) (hp : pc + 3 = pc') (kt : y < x → GW S E Q tgt L st σ) (kf : ¬ y < x → GW S E Q pc' L st σ) : GW S E Q pc L (.int y :: .int x :: st) σ := by
  subst hp
  exact fun H locs ls hP hS hl hz => lv_icmp_gt C.1 C.2.1 hd ht (fun h => (kt) h H locs ls hP hS hl hz) (fun h => (kf) h H locs ls hP hS hl hz)
theorem G_icmp_le (C : gCx S E own cc nL ret d) (tgt pc' : Nat) {x y : Int32} {off : Int} (hd : decode cc pc = .ok (.if_icmp .le off, 3)) (ht : (pc : Int) + off = (tgt : Int)) (hp : pc + 3 = pc') (kt : ¬ y < x → GW S E Q tgt L st σ) (kf : y < x → GW S E Q pc' L st σ) : GW S E Q pc L (.int y :: .int x :: st) σ := by
  subst hp
  exact fun H locs ls hP hS hl hz => lv_icmp_le C.1 C.2.1 hd ht (fun h => (fun h => kt (Int32.not_lt.mpr h)) h H locs ls hP hS hl hz) (fun h => (fun h => kf (Int32.not_le.mp h)) h H locs ls hP hS hl hz)
theorem G_tsIn (C : gCx S E own cc nL ret d) (tgt : Nat) {dflt lo hi : Int} {offs : Array Int} {len : Nat} {x : Int32} {off : Int} (k0 : Int) (hx : x = Int32.ofInt k0) (hd : decode cc pc = .ok (.tableswitch dflt lo hi offs, len)) (hk : (Int32.ofInt k0).toInt = k0 ∧ lo ≤ k0 ∧ k0 ≤ hi) (ho : offs[(k0 - lo).toNat]? = some off) (ht : (pc : Int) + off = (tgt : Int)) (k : GW S E Q tgt L st σ) : GW S E Q pc L (.int x :: st) σ := by
  subst hx
  intro H locs ls hP hS hl hz
  exact lv_tableIn C.1 C.2.1 hd (by rw [hk.1]; omega) (by rw [hk.1]; omega) (by rw [hk.1]; exact ho) ht (k H locs ls hP hS hl hz)
theorem G_tsOut (C : gCx S E own cc nL ret d) (tgt : Nat) {dflt lo hi : Int} {offs : Array Int} {len : Nat} {x : Int32} (hd : decode cc pc = .ok (.tableswitch dflt lo hi offs, len)) (h : x.toInt < lo ∨ hi < x.toInt) (ht : (pc : Int) + dflt = (tgt : Int)) (k : GW S E Q tgt L st σ) : GW S E Q pc L (.int x :: st) σ :=
  fun H locs ls hP hS hl hz => lv_tableOut C.1 C.2.1 hd h ht (k H locs ls hP hS hl hz)
theorem G_ls (C : gCx S E own cc nL ret d) (tgt : Nat) {dflt : Int} {ps : Array (Int × Int)} {len : Nat} {x : Int32} {off : Int} (hd : decode cc pc = .ok (.lookupswitch dflt ps, len)) (hs : (ps.toList.zip (ps.toList.drop 1)).all (fun (a, next) => a.1 < next.1) = true) (ho : Op.lookupswitch.offset ps.toList dflt x.toInt = off) (ht : (pc : Int) + off = (tgt : Int)) (k : GW S E Q tgt L st σ) : GW S E Q pc L (.int x :: st) σ :=
  fun H locs ls hP hS hl hz => lv_lookup C.1 C.2.1 hd hs ho ht (k H locs ls hP hS hl hz)
theorem G_ldc (C : gCx S E own cc nL ret d) (pc' : Nat) {index : Nat} {v : Int32} (hc : Cond.constant own index v ∈ gTB) (hd : decode cc pc = .ok (.ldc index, 2)) (hp : pc + 2 = pc') (k : GW S E Q pc' L (.int v :: st) σ) : GW S E Q pc L st σ := by
  subst hp
  exact fun H locs ls hP hS hl hz => lv_ldc C.1 C.2.1 C.2.2.2.1 (C.2.2.2.2.1 _ hc) hd (k H locs ls hP hS hl hz)
theorem G_ldcw (C : gCx S E own cc nL ret d) (pc' : Nat) {index : Nat} {v : Int32} (hc : Cond.constant own index v ∈ gTB) (hd : decode cc pc = .ok (.ldc_w index, 3)) (hp : pc + 3 = pc') (k : GW S E Q pc' L (.int v :: st) σ) : GW S E Q pc L st σ := by
  subst hp
  exact fun H locs ls hP hS hl hz => lv_ldcw C.1 C.2.1 C.2.2.2.1 (C.2.2.2.2.1 _ hc) hd (k H locs ls hP hS hl hz)
theorem G_ldc2 (C : gCx S E own cc nL ret d) (pc' : Nat) {index : Nat} {v : Int64} (hc : Cond.constantLong own index v ∈ gTB) (hd : decode cc pc = .ok (.ldc2_w index, 3)) (hp : pc + 3 = pc') (k : GW S E Q pc' L (.long v :: st) σ) : GW S E Q pc L st σ := by
  subst hp
  exact fun H locs ls hP hS hl hz => lv_ldc2 C.1 C.2.1 C.2.2.2.1 (C.2.2.2.2.1 _ hc) hd (k H locs ls hP hS hl hz)
end GR
def gFl (own : String) (idx ci : Nat) (C : String) (T : u_T) (N j : Nat) : Prop := vwCl[ci]? = some (C, T, N) ∧ j < N ∧ (∀ w ∈ u_ws C T N, w ∈ gTB) ∧ Cond.fieldLink own idx C (T j).2.1 (T j).2.2.1 ∈ gTB ∧ (T j).1 = C
def gFn (S : gSd) (own host : String) (idx ci : Nat) (C : String) (T : u_T) (N j : Nat) : Prop := vwCl[ci]? = some (C, T, N) ∧ j < N ∧ (∀ w ∈ u_ws C T N, w ∈ gTB) ∧ (∀ z A U H, S.2.2.2 z A U H → va_Nw (Cond.fieldLinkNest own idx C (T j).2.1 (T j).2.2.1 host) U) ∧ (T j).1 = C
def gFp (T : u_T) (ty0 : Nat → FieldType) (N j : Nat) (ty : FieldType) : Prop := (∀ k, k < N → parseFieldDescriptor (T k).2.2.1 = some (ty0 k)) ∧ (∀ a, a < N → ∀ b, b < N → a ≠ b → (T a).2.1 ≠ (T b).2.1) ∧ (T j).2.2.2 = false ∧ parseFieldDescriptor (T j).2.2.1 = some ty
section GF
variable {S : gSd} {E : gE} {own : String} {cc : ByteArray} {nL : Nat} {ret : Option FieldType} {d : Nat} {Q : State → Prop} {pc : Nat} {L L' : List (Option Value)} {st : List Value} {σ : gS}
theorem G_get (C : gCx S E own cc nL ret d) (pc' : Nat) {idx ci : Nat} {Cn : String} {T : u_T} {N j k : Nat} {fs : List Value} {v : Value} (F : gFl own idx ci Cn T N j) (hk : k < S.1) (he : S.2.2.1 (e_cA E) (e_ad E) σ k = .inr (ci, fs)) (hv : fs[j]? = some v) (hd : decode cc pc = .ok (.getfield idx, 3)) (hp : pc + 3 = pc') (kk : GW S E Q pc' L (v :: st) σ) : GW S E Q pc L (.ref (e_ad E k) :: st) σ := by
  subst hp
  intro H locs ls hP hS hl hz
  obtain ⟨f1, f2, f3, f4, f5⟩ := F
  exact va_get C.1 C.2.1 C.2.2.2.2.1 f3 C.2.2.2.1 C.2.2.2.2.2.2.2.1 hP k (by rw [gPic_at hk, he]) f1 j f2 (C.2.2.2.2.1 _ f4) (fun _ h => by rw [f5] at h; exact h) hv hd (kk H locs ls hP hS hl hz)
theorem G_getN (C : gCx S E own cc nL ret d) (pc' : Nat) {host : String} {idx ci : Nat} {Cn : String} {T : u_T} {N j k : Nat} {fs : List Value} {v : Value} (F : gFn S own host idx ci Cn T N j) (hk : k < S.1) (he : S.2.2.1 (e_cA E) (e_ad E) σ k = .inr (ci, fs)) (hv : fs[j]? = some v) (hd : decode cc pc = .ok (.getfield idx, 3)) (hp : pc + 3 = pc') (kk : GW S E Q pc' L (v :: st) σ) : GW S E Q pc L (.ref (e_ad E k) :: st) σ := by
  subst hp
  intro H locs ls hP hS hl hz
  obtain ⟨f1, f2, f3, f4, f5⟩ := F
  exact va_getN C.1 C.2.1 C.2.2.2.2.1 f3 C.2.2.2.1 C.2.2.2.2.2.2.2.1 hP k (by rw [gPic_at hk, he]) f1 j f2 (va_Nw.use rfl (f4 _ _ _ _ C.2.2.2.2.2.2.2.2.2.1)) (fun _ h => by rw [f5] at h; exact h) hv hd (kk H locs ls hP hS hl hz)
theorem G_put (C : gCx S E own cc nL ret d) (pc' : Nat) {idx ci : Nat} {Cn : String} {T : u_T} {N j k : Nat} {ty0 : Nat → FieldType} {ty : FieldType} {fs : List Value} {v : Value} {σ' : gS} (F : gFl own idx ci Cn T N j) (P : gFp T ty0 N j ty) (hk : k < S.1) (he : S.2.2.1 (e_cA E) (e_ad E) σ k = .inr (ci, fs)) (he' : S.2.2.1 (e_cA E) (e_ad E) σ' k = .inr (ci, fs.set j v)) (hn : ∀ a, a ≠ k → σ' a = σ a) (hz' : gz S σ → gz S σ') (hl : j < fs.length) (hv : narrow ty v = v ∧ fits ty v = true) (hd : decode cc pc = .ok (.putfield idx, 3)) (hp : pc + 3 = pc') (kk : GW S E Q pc' L st σ') : GW S E Q pc L (v :: .ref (e_ad E k) :: st) σ := by
  subst hp
  intro H locs ls hP hS hlv hz
  obtain ⟨f1, f2, f3, f4, f5⟩ := F
  obtain ⟨p1, p2, p3, p4⟩ := P
  refine va_put C.1 C.2.1 C.2.2.2.2.1 f3 ty0 p1 p2 C.2.2.2.1 C.2.2.2.2.2.2.2.1 hP (gD_of σ C.2.2.2.2.2.2.2.2.1) hS k (by rw [gPic_at hk, he]) f1 j f2 (C.2.2.2.2.1 _ f4) (fun _ h => by rw [f5] at h; exact h) p3 p4 hv.1 hv.2 hl hd (fun H1 locs1 hP1 _ hS1 => ?_)
  rw [gPic_set C.2.2.2.2.2.2.2.2.2.2.1 he' hn] at hP1
  exact kk H1 locs1 ls hP1 hS1 hlv (hz' hz)
theorem G_putN (C : gCx S E own cc nL ret d) (pc' : Nat) {host : String} {idx ci : Nat} {Cn : String} {T : u_T} {N j k : Nat} {ty0 : Nat → FieldType} {ty : FieldType} {fs : List Value} {v : Value} {σ' : gS} (F : gFn S own host idx ci Cn T N j) (P : gFp T ty0 N j ty) (hk : k < S.1) (he : S.2.2.1 (e_cA E) (e_ad E) σ k = .inr (ci, fs)) (he' : S.2.2.1 (e_cA E) (e_ad E) σ' k = .inr (ci, fs.set j v)) (hn : ∀ a, a ≠ k → σ' a = σ a) (hz' : gz S σ → gz S σ') (hl : j < fs.length) (hv : narrow ty v = v ∧ fits ty v = true) (hd : decode cc pc = .ok (.putfield idx, 3)) (hp : pc + 3 = pc') (kk : GW S E Q pc' L st σ') : GW S E Q pc L (v :: .ref (e_ad E k) :: st) σ := by
  subst hp
  intro H locs ls hP hS hlv hz
  obtain ⟨f1, f2, f3, f4, f5⟩ := F
  obtain ⟨p1, p2, p3, p4⟩ := P
  refine va_putN C.1 C.2.1 C.2.2.2.2.1 f3 ty0 p1 p2 C.2.2.2.1 C.2.2.2.2.2.2.2.1 hP (gD_of σ C.2.2.2.2.2.2.2.2.1) hS k (by rw [gPic_at hk, he]) f1 j f2 (va_Nw.use rfl (f4 _ _ _ _ C.2.2.2.2.2.2.2.2.2.1)) (fun _ h => by rw [f5] at h; exact h) p3 p4 hv.1 hv.2 hl hd (fun H1 locs1 hP1 _ hS1 => ?_)
  rw [gPic_set C.2.2.2.2.2.2.2.2.2.2.1 he' hn] at hP1
  exact kk H1 locs1 ls hP1 hS1 hlv (hz' hz)
theorem G_puti (C : gCx S E own cc nL ret d) (pc' : Nat) {idx ci : Nat} {Cn : String} {T : u_T} {N j k : Nat} {ty0 : Nat → FieldType} {fs : gS → List Value} {x : Int32} (F : gFl own idx ci Cn T N j) (P : gFp T ty0 N j .int) (hk : k < S.1) (hj : j < S.2.1 k) (he : ∀ σ, S.2.2.1 (e_cA E) (e_ad E) σ k = .inr (ci, fs σ)) (hs : (fs σ).set j (.int x) = fs (g_up σ k j x)) (hl : j < (fs σ).length) (hd : decode cc pc = .ok (.putfield idx, 3)) (hp : pc + 3 = pc') (kk : ∀ σ', σ' = g_up σ k j x → GW S E Q pc' L st σ') : GW S E Q pc L (.int x :: .ref (e_ad E k) :: st) σ :=
  G_put (σ' := g_up σ k j x) C pc' F P hk (he σ) (by rw [he, hs]) (fun a ha => g_set_n _ _ ha) (fun h => gz_up h hj) hl ⟨rfl, rfl⟩ hd hp (kk _ rfl)
theorem G_putiN (C : gCx S E own cc nL ret d) (pc' : Nat) {host : String} {idx ci : Nat} {Cn : String} {T : u_T} {N j k : Nat} {ty0 : Nat → FieldType} {fs : gS → List Value} {x : Int32} (F : gFn S own host idx ci Cn T N j) (P : gFp T ty0 N j .int) (hk : k < S.1) (hj : j < S.2.1 k) (he : ∀ σ, S.2.2.1 (e_cA E) (e_ad E) σ k = .inr (ci, fs σ)) (hs : (fs σ).set j (.int x) = fs (g_up σ k j x)) (hl : j < (fs σ).length) (hd : decode cc pc = .ok (.putfield idx, 3)) (hp : pc + 3 = pc') (kk : ∀ σ', σ' = g_up σ k j x → GW S E Q pc' L st σ') : GW S E Q pc L (.int x :: .ref (e_ad E k) :: st) σ :=
  G_putN (σ' := g_up σ k j x) C pc' F P hk (he σ) (by rw [he, hs]) (fun a ha => g_set_n _ _ ha) (fun h => gz_up h hj) hl ⟨rfl, rfl⟩ hd hp (kk _ rfl)
theorem G_putz (C : gCx S E own cc nL ret d) (pc' : Nat) {idx ci : Nat} {Cn : String} {T : u_T} {N j k : Nat} {ty0 : Nat → FieldType} {fs : gS → List Value} {x : Int32} (F : gFl own idx ci Cn T N j) (P : gFp T ty0 N j .boolean) (hx : narrow .boolean (.int x) = .int x ∧ fits .boolean (.int x) = true) (hk : k < S.1) (hj : j < S.2.1 k) (he : ∀ σ, S.2.2.1 (e_cA E) (e_ad E) σ k = .inr (ci, fs σ)) (hs : (fs σ).set j (.int x) = fs (g_up σ k j x)) (hl : j < (fs σ).length) (hd : decode cc pc = .ok (.putfield idx, 3)) (hp : pc + 3 = pc') (kk : ∀ σ', σ' = g_up σ k j x → GW S E Q pc' L st σ') : GW S E Q pc L (.int x :: .ref (e_ad E k) :: st) σ :=
  G_put (σ' := g_up σ k j x) C pc' F P hk (he σ) (by rw [he, hs]) (fun a ha => g_set_n _ _ ha) (fun h => gz_up h hj) hl hx hd hp (kk _ rfl)
theorem G_iald (C : gCx S E own cc nL ret d) (pc' : Nat) {k n : Nat} (hk : k < S.1) (he : S.2.2.1 (e_cA E) (e_ad E) σ k = .inl (e_cA E 0, n, .inl (σ k))) {i : Int32} (j : Nat) (hi : i = nI j) (hj : j < n) (hn : n < 2 ^ 31) (hd : decode cc pc = .ok (.iaload, 1)) (hp : pc + 1 = pc') (kk : ∀ v : Int32, v = σ k j → GW S E Q pc' L (.int v :: st) σ) : GW S E Q pc L (.int i :: .ref (e_ad E k) :: st) σ := by
  subst hp
  subst hi
  intro H locs ls hP hS hl hz
  refine va_iald C.1 C.2.1 C.2.2.2.2.2.2.2.1 hP k 0 (by rw [gPic_at hk, he]) rfl (vp_in_nI hj hn) hd ?_
  rw [nI_clamp (by omega)]
  exact kk _ rfl H locs ls hP hS hl hz
theorem G_iast (C : gCx S E own cc nL ret d) (pc' : Nat) {k n : Nat} (hk : k < S.1) (he : ∀ σ, S.2.2.1 (e_cA E) (e_ad E) σ k = .inl (e_cA E 0, n, .inl (σ k))) {i x : Int32} (j : Nat) (hi : i = nI j) (hj : j < n) (hn : n < 2 ^ 31) (hnz : n ≤ S.2.1 k) (hd : decode cc pc = .ok (.iastore, 1)) (hp : pc + 1 = pc') (kk : ∀ σ', σ' = g_up σ k j x → GW S E Q pc' L st σ') : GW S E Q pc L (.int x :: .int i :: .ref (e_ad E k) :: st) σ := by
  subst hp
  subst hi
  intro H locs ls hP hS hl hz
  refine va_iast C.1 C.2.1 C.2.2.2.2.2.2.2.1 hP (gD_of σ C.2.2.2.2.2.2.2.2.1) hS k 0 (by rw [gPic_at hk, he]) rfl (vp_in_nI hj hn) hd (fun H1 locs1 hP1 _ hS1 => ?_)
  rw [nI_clamp (by omega), gPic_set (σ' := g_up σ k j x) C.2.2.2.2.2.2.2.2.2.2.1 (by rw [he]; unfold g_up; rw [g_set_s]) (fun a ha => g_set_n _ _ ha)] at hP1
  exact kk _ rfl H1 locs1 ls hP1 hS1 hl (gz_up hz (by omega))
theorem G_alen (C : gCx S E own cc nL ret d) (pc' : Nat) {k n : Nat} (hk : k < S.1) (he : S.2.2.1 (e_cA E) (e_ad E) σ k = .inl (e_cA E 0, n, .inl (σ k))) (hd : decode cc pc = .ok (.arraylength, 1)) (hp : pc + 1 = pc') (kk : GW S E Q pc' L (.int (nI n) :: st) σ) : GW S E Q pc L (.ref (e_ad E k) :: st) σ := by
  subst hp
  exact fun H locs ls hP hS hl hz => va_alen (x := (n, .inl (σ k))) C.1 C.2.1 C.2.2.2.2.2.2.2.1 hP k 0 (by rw [gPic_at hk, he]) rfl rfl hd (kk H locs ls hP hS hl hz)
theorem G_aald (C : gCx S E own cc nL ret d) (pc' : Nat) {k n t0 : Nat} {Cn : String} {f : Nat → Option Nat} (hk : k < S.1) (he : S.2.2.1 (e_cA E) (e_ad E) σ k = .inl (e_cA E t0, n, .inr (.inr (.inr (.inr f))))) (ht : ∀ cA, (gT cA)[t0]? = some (cA t0, .object Cn)) {i : Int32} (j : Nat) (hi : i = nI j) (hj : j < n) (hn : n < 2 ^ 31) {r : Nat} (hr : f j = some (e_ad E r)) (hd : decode cc pc = .ok (.aaload, 1)) (hp : pc + 1 = pc') (kk : GW S E Q pc' L (.ref (e_ad E r) :: st) σ) : GW S E Q pc L (.int i :: .ref (e_ad E k) :: st) σ := by
  subst hp
  subst hi
  intro H locs ls hP hS hl hz
  refine va_aldq C.1 C.2.1 C.2.2.2.2.2.2.2.1 hP k t0 (by rw [gPic_at hk, he]) (ht _) (vp_in_nI hj hn) hd ?_
  rw [nI_clamp (by omega), hr]
  exact kk H locs ls hP hS hl hz
theorem G_iret {P : Int32 → gS → Prop} (C : gCx S E own cc nL (some .int) d) {v : Int32} (hd : decode cc pc = .ok (.ireturn, 1)) (h : P v σ) : GW S E (gFin S E (gQi S P)) pc L [.int v] σ := by
  intro H locs ls hP hS hl hz
  exact W.iret (v := v) C.1 C.2.1 C.2.2.2.2.2.1 (fun t ht hW => ⟨⟨v, σ, rfl, h, by rw [ht]; exact hP, va_K.moved hW.alike C.2.2.2.2.2.2.2.1, hz⟩, hS.F ht⟩) hS.2.2 hd C.2.2.2.2.2.2.1
theorem G_zret {P : Int32 → gS → Prop} {ty : FieldType} (C : gCx S E own cc nL (some ty) d) {v : Int32} (hn : narrow ty (.int v) = .int v) (hd : decode cc pc = .ok (.ireturn, 1)) (h : P v σ) : GW S E (gFin S E (gQi S P)) pc L [.int v] σ := by
  intro H locs ls hP hS hl hz
  exact W.zret (v := v) C.1 C.2.1 C.2.2.2.2.2.1 hn (fun t ht hW => ⟨⟨v, σ, rfl, h, by rw [ht]; exact hP, va_K.moved hW.alike C.2.2.2.2.2.2.2.1, hz⟩, hS.F ht⟩) hS.2.2 hd C.2.2.2.2.2.2.1
theorem G_lret {P : Int64 → gS → Prop} (C : gCx S E own cc nL (some .long) d) {v : Int64} (hd : decode cc pc = .ok (.lreturn, 1)) (h : P v σ) : GW S E (gFin S E (gQl S P)) pc L [.long v] σ := by
  intro H locs ls hP hS hl hz
  exact W.lret (v := v) C.1 C.2.1 C.2.2.2.2.2.1 (fun t ht hW => ⟨⟨v, σ, rfl, h, by rw [ht]; exact hP, va_K.moved hW.alike C.2.2.2.2.2.2.2.1, hz⟩, hS.F ht⟩) hS.2.2 hd C.2.2.2.2.2.2.1
theorem G_vret {P : gS → Prop} (C : gCx S E own cc nL none d) (hd : decode cc pc = .ok (.return_, 1)) (h : P σ) : GW S E (gFin S E (gQv S P)) pc L [] σ := by
  intro H locs ls hP hS hl hz
  exact W.vret C.1 C.2.1 C.2.2.2.2.2.1 (fun t ht hW => ⟨⟨σ, rfl, h, by rw [ht]; exact hP, va_K.moved hW.alike C.2.2.2.2.2.2.2.1, hz⟩, hS.F ht⟩) hS.2.2 hd C.2.2.2.2.2.2.1
theorem G_aret {P : Nat → gS → Prop} {rt : FieldType} (C : gCx S E own cc nL (some rt) d) (hrt : (∃ n, rt = .object n) ∨ ∃ t, rt = .array t) {k : Nat} (hd : decode cc pc = .ok (.areturn, 1)) (h : P k σ) : GW S E (gFin S E (gQr S P)) pc L [.ref (e_ad E k)] σ := by
  intro H locs ls hP hS hl hz
  exact W.aret (v := .ref (e_ad E k)) C.1 C.2.1 C.2.2.2.2.2.1 hrt (Or.inr ⟨_, rfl⟩) (fun t ht hW => ⟨⟨(σ, k), e_ad E k, rfl, h, rfl, by rw [ht]; exact hP, va_K.moved hW.alike C.2.2.2.2.2.2.2.1, hz⟩, hS.F ht⟩) hS.2.2 hd C.2.2.2.2.2.2.1
end GF
