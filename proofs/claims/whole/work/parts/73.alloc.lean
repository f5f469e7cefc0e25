theorem w_63a : Cond.arrayClass .int ∈ gTB := gTB_of (tm_0_63 _ List.mem_cons_self) rfl
theorem w_31a : Cond.arrayOver (.object RX7) ∈ lw_tbl := tm_0_31 _ List.mem_cons_self
theorem w_33a : Cond.arrayOver (.object RX4) ∈ lw_tbl := tm_0_33 _ List.mem_cons_self
theorem w_103a : Cond.arrayOver (.object RX0) ∈ lw_tbl := tm_0_103 _ List.mem_cons_self
theorem w_1254a : Cond.castable RX3 RX0 ∈ lw_tbl := tm_5_1254 _ List.mem_cons_self
theorem w_1255a : Cond.castable RX1 RX0 ∈ lw_tbl := tm_5_1255 _ List.mem_cons_self
theorem w_1256a : Cond.castable RX8 RX0 ∈ lw_tbl := tm_5_1256 _ List.mem_cons_self
theorem w_1257a : Cond.castable RX2 RX0 ∈ lw_tbl := tm_5_1257 _ List.mem_cons_self
theorem w_1258a : Cond.castable RX5 RX0 ∈ lw_tbl := tm_5_1258 _ List.mem_cons_self
def isCst : Cond → Bool
  | .castable .. => true
  | _ => false
def gCB : List Cond := lw_tbl.filter isCst
theorem gCB_of {w : Cond} (h : w ∈ lw_tbl) (g : isCst w = true) : w ∈ gCB := List.mem_filter.mpr ⟨h, g⟩
theorem gCB_warm {w : Cond} (h : w ∈ gCB) {s U : State} (hW : State.WarmedH s U.vm) (hZ : va_Nw w s) : va_Nw w U := by
  have g := (List.mem_filter.mp h).2
  cases w <;> first | exact va_Nw.warmC hW hZ | (simp [isCst] at g)
theorem gCB_same {w : Cond} (h : w ∈ gCB) {u U : State} (hv : U.vm = u.vm) (hZ : va_Nw w u) : va_Nw w U := by
  have g := (List.mem_filter.mp h).2
  cases w <;> first | exact va_Nw.same rfl hv.symm hZ | (simp [isCst] at g)
def kJ (U : State) : Prop := (∀ w ∈ gNB, va_Nw w U) ∧ (∀ w ∈ gCB, va_Nw w U) ∧ va_AO RX7 U ∧ va_AO RX4 U ∧ va_AO RX0 U
theorem kJ.warm {s U : State} (hW : State.WarmedH s U.vm) (h : kJ s) : kJ U := ⟨fun w hw => gNB_warm hw hW (h.1 w hw), fun w hw => gCB_warm hw hW (h.2.1 w hw), h.2.2.1.moved hW.alike, h.2.2.2.1.moved hW.alike, h.2.2.2.2.moved hW.alike⟩
theorem kJ.same {u U : State} (hv : U.vm = u.vm) (h : kJ u) : kJ U := by
  have hA : u.vm.Alike U.vm := by rw [hv]; exact Vm.Alike.refl _
  exact ⟨fun w hw => gNB_same hw hv (h.1 w hw), fun w hw => gCB_same hw hv (h.2.1 w hw), h.2.2.1.moved hA, h.2.2.2.1.moved hA, h.2.2.2.2.moved hA⟩
def rA (b N : Nat) : Nat → Prop := fun q => b ≤ q ∧ q < b + N
def cR (b n : Nat) (en : Nat → va_E) : va_W := (List.range n).map (fun k => (b + k, en k))
theorem cR_at {b n k : Nat} {en : Nat → va_E} (hk : k < n) : (cR b n en)[k]? = some (b + k, en k) := by
  simp [cR, hk]
theorem cR_inv {b n k : Nat} {en : Nat → va_E} {q : Nat × va_E} (h : (cR b n en)[k]? = some q) : k < n ∧ q = (b + k, en k) := by
  have hk : k < n := by
    have := (List.getElem?_eq_some_iff.mp h).1
    simpa [cR] using this
  rw [cR_at hk] at h
  exact ⟨hk, (Option.some.inj h).symm⟩
theorem cR_D {b n N : Nat} {en : Nat → va_E} (h : n ≤ N) : va_D (rA b N) (cR b n en) := by
  refine ⟨fun i j p q hp hq e => ?_, fun k q hq => ?_⟩
  · obtain ⟨h1, rfl⟩ := cR_inv hp
    obtain ⟨h2, rfl⟩ := cR_inv hq
    have e2 : b + i = b + j := e
    omega
  · obtain ⟨h1, rfl⟩ := cR_inv hq
    exact ⟨Nat.le_add_right _ _, by show b + k < b + N; omega⟩
def e_up (en : Nat → va_E) (k : Nat) (x : va_E) : Nat → va_E := fun j => if j = k then x else en j
def e_ct (en : Nat → va_E) (m : Nat) (en2 : Nat → va_E) : Nat → va_E := fun k => if k < m then en k else en2 (k - m)
theorem cR_set {b n k : Nat} {en : Nat → va_E} {x : va_E} (hk : k < n) : (cR b n en).set k (b + k, x) = cR b n (e_up en k x) := by
  apply List.ext_getElem?
  intro i
  rw [List.getElem?_set]
  by_cases hi : k = i
  · subst hi
    rw [if_pos rfl, if_pos (by simpa [cR] using hk), cR_at hk]
    unfold e_up
    rw [if_pos rfl]
  · rw [if_neg hi]
    by_cases hk2 : i < n
    · rw [cR_at hk2, cR_at hk2]
      unfold e_up
      rw [if_neg (fun e => hi e.symm)]
    · rw [List.getElem?_eq_none (by simpa [cR] using hk2), List.getElem?_eq_none (by simpa [cR] using hk2)]
theorem cR_push {b n : Nat} {en : Nat → va_E} {x : va_E} : cR b n en ++ [(b + n, x)] = cR b (n + 1) (e_up en n x) := by
  unfold cR
  rw [List.range_succ, List.map_append]
  congr 1
  · refine List.map_congr_left (fun k hk => ?_)
    have := List.mem_range.mp hk
    unfold e_up
    rw [if_neg (by omega)]
  · simp [e_up]
theorem r_cons {P : Nat → Prop} {n m : Nat} (h0 : P n) (h : ∀ k, n + 1 ≤ k → k < m → P k) : ∀ k, n ≤ k → k < m → P k := by
  intro k h1 h2
  by_cases e : k = n
  · rw [e]; exact h0
  · exact h k (by omega) h2
theorem r_end {P : Nat → Prop} {n : Nat} : ∀ k, n ≤ k → k < n → P k := fun k h1 h2 => absurd h2 (by omega)
def kCx (E : gE) (own : String) (cc : ByteArray) (nL : Nat) (ret : Option FieldType) : Prop :=
  (e_p E).tables.exec = Jvm.exec ∧ (e_c E).code = cc ∧ (e_c E).maxLocals = nL ∧ (e_s E).vm.findClass own = some (e_m E).cls ∧ (∀ w ∈ gTB, w.before (e_a E) (e_s E) = true) ∧ (e_M E).sig.returnType = ret ∧ (e_M E).locks = false ∧ va_K (e_D E) vwCl (gT (e_cA E)) (e_s E)
def AW (E : gE) (N b n ck cs : Nat) (Q : State → Prop) (pc : Nat) (L : List (Option Value)) (st : List Value) (en : Nat → va_E) : Prop :=
  ∀ (H : Heap) (locs : List Loc) (ls : Array Slot), va_P (e_D E) vwCl (cR b n en) H → va_S (rA b N) (e_s E).heap H locs → lvx ls L →
    W (e_p E) (e_l E) (e_e E) (e_R E) (e_s E) (e_m E) (e_a E) (e_b E) (e_M E) (e_c E) H locs ck cs Q (F0 (e_m E) pc ls st)
section AR
variable {E : gE} {own : String} {cc : ByteArray} {nL : Nat} {ret : Option FieldType} {N b n ck cs : Nat} {Q : State → Prop} {pc : Nat} {L L' : List (Option Value)} {st st0 rest : List Value} {en : Nat → va_E}
theorem AW_size {H : Heap} {locs : List Loc} {T : State} (hP : va_P (e_D E) vwCl (cR b n en) H) (hS : va_S (rA b N) (e_s E).heap H locs) (hT : T.heap = H) (X : Stand (e_p E) (e_l E) (e_e E) (e_R E) (e_s E) (e_m E) (e_a E) (e_b E) (e_M E) (e_c E) T locs ck cs) (hsz : (e_s E).heap.size + ck = b + n) (hlo : 0 < n ∨ ck = 0) : H.size = b + n := by
  have h1 := X.heapSize
  rw [hT] at h1
  rcases hlo with h | h
  · have h2 := (hP (n - 1) _ (cR_at (by omega))).lt
    have h3 : b + (n - 1) < H.size := h2
    omega
  · have h2 := hS.1
    omega
theorem AW_sz {g : JFrame} {H : Heap} {locs : List Loc} (hP : va_P (e_D E) vwCl (cR b n en) H) (hS : va_S (rA b N) (e_s E).heap H locs) (hsz : (e_s E).heap.size + ck = b + n) (hlo : 0 < n ∨ ck = 0) (k : H.size = b + n → W (e_p E) (e_l E) (e_e E) (e_R E) (e_s E) (e_m E) (e_a E) (e_b E) (e_M E) (e_c E) H locs ck cs Q g) : W (e_p E) (e_l E) (e_e E) (e_R E) (e_s E) (e_m E) (e_a E) (e_b E) (e_M E) (e_c E) H locs ck cs Q g := fun T hT X => k (AW_size hP hS hT X hsz hlo) T hT X
theorem A_one {D : va_G} {q : Nat} {x : va_E} {H : Heap} (h : va_at D vwCl (q, x) H) : va_P D vwCl [(q, x)] H := by
  intro k y hy
  have hz : k < 1 := (List.getElem?_eq_some_iff.mp hy).1
  rw [show k = 0 by omega] at hy
  cases hy
  exact h
theorem A_new (C : kCx E own cc nL ret) (pc' : Nat) {Cn : String} {T : u_T} {Nf ci idx : Nat} {ty : Nat → FieldType} (hin : ∀ w ∈ u_ws Cn T Nf, w ∈ gTB) (hty : ∀ k, k < Nf → parseFieldDescriptor (T k).2.2.1 = some (ty k)) (hcl : Cond.classLink own idx Cn ∈ gTB) (hinst : Cond.instantiable Cn Nf ∈ gTB) (hini : Cond.initialized Cn ∈ gTB) (hc : vwCl[ci]? = some (Cn, T, Nf)) {fs : List Value} (hfs : ∀ j, j < Nf → defaultValue (ty j) = vp_V fs j)
    (hsz : (e_s E).heap.size + ck = b + n) (hlo : 0 < n ∨ ck = 0) (hck : ck + 1 ≤ (e_R E).cells) (hcs : cs + Nf ≤ (e_R E).slots) (hd : decode cc pc = .ok (.new idx, 3)) (hp : pc + 3 = pc') (kk : AW E N b (n + 1) (ck + 1) (cs + Nf) Q pc' L (.ref (b + n) :: st) (e_up en n (.inr (ci, fs)))) : AW E N b n ck cs Q pc L st en := by
  subst hp
  intro H locs ls hP hS hl
  refine AW_sz hP hS hsz hlo (fun hz => ?_)
  have hK := C.2.2.2.2.2.2.2.1 ci _ hc
  refine W.newcK C.1 C.2.1 C.2.2.2.1 (C.2.2.2.2.1 _ hcl) (C.2.2.2.2.1 _ hinst) (C.2.2.2.2.1 _ hini) rfl hd hck hcs hK.2.1 hz (fun H1 kC hkC e1 z1 o1 => ?_)
  refine kk H1 locs ls ?_ ⟨Nat.le_trans hS.1 (by omega), fun x h1 h2 => (o1 x (by have := hS.1; omega)).trans (hS.2.1 x h1 h2), hS.2.2⟩ hl
  rw [← cR_push]
  exact (hP.kept (fun k x hx => o1 x.1 (by rw [← hz]; exact (hP k x hx).lt))).app (A_one ⟨_, hc, (u_born ty C.2.2.2.2.1 hin hK hkC e1 hty).to hfs⟩)
theorem A_newa (C : kCx E own cc nL ret) (pc' : Nat) {N' : Nat} {v : Int32} (hv : v = nI N') (hN' : N' ≤ 2000) (hsz : (e_s E).heap.size + ck = b + n) (hlo : 0 < n ∨ ck = 0) (hck : ck + 1 ≤ (e_R E).cells) (hcs : cs + N' ≤ (e_R E).slots) (hd : decode cc pc = .ok (.newarray .int, 2)) (hp : pc + 2 = pc')
    (kk : AW E N b (n + 1) (ck + 1) (cs + N') Q pc' L (.ref (b + n) :: st) (e_up en n (.inl (e_cA E 0, N', .inl (fun _ => 0))))) : AW E N b n ck cs Q pc L (.int v :: st) en := by
  subst hp hv
  intro H locs ls hP hS hl
  refine AW_sz hP hS hsz hlo (fun hz => ?_)
  refine va_newaK (atype := .int) C.1 C.2.1 (C.2.2.2.2.1 _ w_63a) rfl hd rfl (nI_pos (by omega)) (nI_clamp (by omega)) (show N' * 4 ≤ 536870912 by omega) hck hcs hz (fun H1 cA e1 z1 o1 hAr hNm => ?_)
  have hc : cA = e_cA E 0 := Option.some.inj (hNm.symm.trans (C.2.2.2.2.2.2.2.2 0 _ rfl).2)
  subst hc
  refine kk H1 locs ls ?_ ⟨Nat.le_trans hS.1 (by omega), fun x h1 h2 => (o1 x (by have := hS.1; omega)).trans (hS.2.1 x h1 h2), hS.2.2⟩ hl
  rw [← cR_push]
  exact (hP.kept (fun k x hx => o1 x.1 (by rw [← hz]; exact (hP k x hx).lt))).app (A_one e1)
theorem A_newq (C : kCx E own cc nL ret) (pc' : Nat) {N' t0 idx : Nat} {Cn : String} {v : Int32} (hv : v = nI N') (hN' : N' ≤ 2000) (hcl : Cond.classLink own idx Cn ∈ gTB) (hover : va_AO Cn (e_s E)) (ht : (gT (e_cA E))[t0]? = some (e_cA E t0, .object Cn)) (hsz : (e_s E).heap.size + ck = b + n) (hlo : 0 < n ∨ ck = 0) (hck : ck + 1 ≤ (e_R E).cells) (hcs : cs + N' ≤ (e_R E).slots) (hd : decode cc pc = .ok (.anewarray idx, 3)) (hp : pc + 3 = pc')
    (kk : AW E N b (n + 1) (ck + 1) (cs + N') Q pc' L (.ref (b + n) :: st) (e_up en n (.inl (e_cA E t0, N', gRefs (fun _ => none))))) : AW E N b n ck cs Q pc L (.int v :: st) en := by
  subst hp hv
  intro H locs ls hP hS hl
  refine AW_sz hP hS hsz hlo (fun hz => ?_)
  refine W.anew C.1 C.2.1 C.2.2.2.1 (C.2.2.2.2.1 _ hcl) (va_AO.use hover) rfl hd rfl (nI_pos (by omega)) (by rw [nI_clamp (by omega)]; omega) hck (by rw [nI_clamp (by omega)]; exact hcs) (fun cA kA comp f1 f2 f3 f4 => ?_)
  obtain ⟨kB, cB, g1, g2, g3, g4⟩ := (C.2.2.2.2.2.2.2.2 t0 _ ht).2
  have hc : cA = e_cA E t0 := Option.some.inj (f1.symm.trans g4)
  subst hc
  rw [nI_clamp (by omega)]
  generalize hH1 : H.push ({ cls := e_cA E t0, slots := Array.replicate N' .null, vm := .none } : Cell) = H1
  have z1 : H1.size = b + n + 1 := by rw [← hH1, Array.size_push, hz]
  have e1 : H1[b + n]? = some (arrV (e_cA E t0) N' (fun _ => .null)) := by rw [← hz, ← hH1, Array.getElem?_push_size, ← arrV_new]
  have o1 : ∀ q : Nat, q < b + n → H1[q]? = H[q]? := fun q hq => by rw [← hH1, Array.getElem?_push, if_neg (by omega)]
  have kk2 := kk H1 locs ls (by
    rw [← cR_push]
    exact (hP.kept (fun k x hx => o1 x.1 (by rw [← hz]; exact (hP k x hx).lt))).app (A_one e1)) ⟨Nat.le_trans hS.1 (by omega), fun x h1 h2 => (o1 x (by have := hS.1; omega)).trans (hS.2.1 x h1 h2), hS.2.2⟩ hl
  rw [← hz] at kk2
  exact kk2
theorem A_putF (C : kCx E own cc nL ret) (hin2 : (e_M E).name = "<init>") (pc' : Nat) {Cn : String} {T : u_T} {Nf ci idx j k : Nat} {ty0 : Nat → FieldType} {ty : FieldType} {fs : List Value} {v : Value} (F : gFl own idx ci Cn T Nf j) (hty : ∀ k, k < Nf → parseFieldDescriptor (T k).2.2.1 = some (ty0 k)) (hnm : ∀ a, a < Nf → ∀ b, b < Nf → a ≠ b → (T a).2.1 ≠ (T b).2.1) (hfin : (T j).2.2.2 = true) (hdecl : (T j).1 = own) (hd0 : parseFieldDescriptor (T j).2.2.1 = some ty) (hv : narrow ty v = v ∧ fits ty v = true) (hk : k < n) (hnN : n ≤ N) (he : en k = .inr (ci, fs)) (hl : j < fs.length) (hd : decode cc pc = .ok (.putfield idx, 3)) (hp : pc + 3 = pc')
    (kk : AW E N b n ck cs Q pc' L st (e_up en k (.inr (ci, fs.set j v)))) : AW E N b n ck cs Q pc L (v :: .ref (b + k) :: st) en := by
  subst hp
  intro H locs ls hP hS hlv
  obtain ⟨f1, f2, f3, f4, f5⟩ := F
  refine va_putF C.1 C.2.1 C.2.2.2.2.1 f3 ty0 hty hnm C.2.2.2.1 C.2.2.2.2.2.2.2 hP (cR_D hnN) hS k (by rw [cR_at hk, he]) f1 j f2 (C.2.2.2.2.1 _ f4) (fun _ h => by rw [f5] at h; exact h) hfin hin2 hdecl hd0 hv.1 hv.2 hl hd (fun H1 locs1 hP1 _ hS1 => ?_)
  rw [cR_set hk] at hP1
  exact kk H1 locs1 ls hP1 hS1 hlv
theorem A_puti (C : kCx E own cc nL ret) (pc' : Nat) {Cn : String} {T : u_T} {Nf ci idx j k : Nat} {ty0 : Nat → FieldType} {fs : List Value} {x : Int32} (F : gFl own idx ci Cn T Nf j) (P : gFp T ty0 Nf j .int) (hk : k < n) (hnN : n ≤ N) (he : en k = .inr (ci, fs)) (hl : j < fs.length) (hd : decode cc pc = .ok (.putfield idx, 3)) (hp : pc + 3 = pc')
    (kk : AW E N b n ck cs Q pc' L st (e_up en k (.inr (ci, fs.set j (.int x))))) : AW E N b n ck cs Q pc L (.int x :: .ref (b + k) :: st) en := by
  subst hp
  intro H locs ls hP hS hlv
  obtain ⟨f1, f2, f3, f4, f5⟩ := F
  obtain ⟨p1, p2, p3, p4⟩ := P
  refine va_put C.1 C.2.1 C.2.2.2.2.1 f3 ty0 p1 p2 C.2.2.2.1 C.2.2.2.2.2.2.2 hP (cR_D hnN) hS k (by rw [cR_at hk, he]) f1 j f2 (C.2.2.2.2.1 _ f4) (fun _ h => by rw [f5] at h; exact h) p3 p4 rfl rfl hl hd (fun H1 locs1 hP1 _ hS1 => ?_)
  rw [cR_set hk] at hP1
  exact kk H1 locs1 ls hP1 hS1 hlv
theorem A_get (C : kCx E own cc nL ret) (pc' : Nat) {Cn : String} {T : u_T} {Nf ci idx j k : Nat} {fs : List Value} {v : Value} (F : gFl own idx ci Cn T Nf j) (hk : k < n) (he : en k = .inr (ci, fs)) (hv : fs[j]? = some v) (hd : decode cc pc = .ok (.getfield idx, 3)) (hp : pc + 3 = pc') (kk : AW E N b n ck cs Q pc' L (v :: st) en) : AW E N b n ck cs Q pc L (.ref (b + k) :: st) en := by
  subst hp
  intro H locs ls hP hS hlv
  obtain ⟨f1, f2, f3, f4, f5⟩ := F
  exact va_get C.1 C.2.1 C.2.2.2.2.1 f3 C.2.2.2.1 C.2.2.2.2.2.2.2 hP k (by rw [cR_at hk, he]) f1 j f2 (C.2.2.2.2.1 _ f4) (fun _ h => by rw [f5] at h; exact h) hv hd (kk H locs ls hP hS hlv)
theorem A_aast (C : kCx E own cc nL ret) (pc' : Nat) {k q t0 ci m i' : Nat} {r : vw_C} {i : Int32} {f : Nat → Option Nat} {vs : List Value} (hi : i = nI i') (him : i' < m) (hm : m ≤ 2000) (hk : k < n) (hq : q < n) (hnN : n ≤ N) (ht : (gT (e_cA E))[t0]? = some (e_cA E t0, .object r.1)) (he : en k = .inl (e_cA E t0, m, gRefs f)) (hv : en q = .inr (ci, vs)) (hc : vwCl[ci]? = some r) (hd : decode cc pc = .ok (.aastore, 1)) (hp : pc + 1 = pc')
    (kk : AW E N b n ck cs Q pc' L st (e_up en k (.inl (e_cA E t0, m, gRefs (va_up f i' (some (b + q))))))) : AW E N b n ck cs Q pc L (.ref (b + q) :: .int i :: .ref (b + k) :: st) en := by
  subst hp hi
  intro H locs ls hP hS hlv
  refine va_astq C.1 C.2.1 C.2.2.2.2.2.2.2 hP (cR_D hnN) hS k t0 q ci (by rw [cR_at hk, he]; rfl) ht (by rw [cR_at hq, hv]) hc (vp_in_nI him (by omega)) hd (fun H1 locs1 hP1 _ hS1 => ?_)
  rw [nI_clamp (by omega), cR_set hk] at hP1
  exact kk H1 locs1 ls hP1 hS1 hlv
theorem A_aastO (C : kCx E own cc nL ret) (pc' : Nat) {k q t0 ci m i' : Nat} {r : vw_C} {Cn : String} {i : Int32} {f : Nat → Option Nat} {vs : List Value} (hi : i = nI i') (him : i' < m) (hm : m ≤ 2000) (hk : k < n) (hq : q < n) (hnN : n ≤ N) (ht : (gT (e_cA E))[t0]? = some (e_cA E t0, .object Cn)) (hca : va_Nw (.castable r.1 Cn) (e_s E)) (he : en k = .inl (e_cA E t0, m, gRefs f)) (hv : en q = .inr (ci, vs)) (hc : vwCl[ci]? = some r) (hd : decode cc pc = .ok (.aastore, 1)) (hp : pc + 1 = pc')
    (kk : AW E N b n ck cs Q pc' L st (e_up en k (.inl (e_cA E t0, m, gRefs (va_up f i' (some (b + q))))))) : AW E N b n ck cs Q pc L (.ref (b + q) :: .int i :: .ref (b + k) :: st) en := by
  subst hp hi
  intro H locs ls hP hS hlv
  refine va_astqO C.1 C.2.1 C.2.2.2.2.2.2.2 hP (cR_D hnN) hS k t0 q ci (by rw [cR_at hk, he]; rfl) ht hca (by rw [cR_at hq, hv]) hc (vp_in_nI him (by omega)) hd (fun H1 locs1 hP1 _ hS1 => ?_)
  rw [nI_clamp (by omega), cR_set hk] at hP1
  exact kk H1 locs1 ls hP1 hS1 hlv
theorem A_iast (C : kCx E own cc nL ret) (pc' : Nat) {k m i' : Nat} {i x : Int32} {f : Nat → Int32} (hi : i = nI i') (him : i' < m) (hm : m ≤ 2000) (hk : k < n) (hnN : n ≤ N) (he : en k = .inl (e_cA E 0, m, .inl f)) (hd : decode cc pc = .ok (.iastore, 1)) (hp : pc + 1 = pc')
    (kk : AW E N b n ck cs Q pc' L st (e_up en k (.inl (e_cA E 0, m, .inl (upd f i' x))))) : AW E N b n ck cs Q pc L (.int x :: .int i :: .ref (b + k) :: st) en := by
  subst hp hi
  intro H locs ls hP hS hlv
  refine va_iast C.1 C.2.1 C.2.2.2.2.2.2.2 hP (cR_D hnN) hS k 0 (by rw [cR_at hk, he]) rfl (vp_in_nI him (by omega)) hd (fun H1 locs1 hP1 _ hS1 => ?_)
  rw [nI_clamp (by omega), cR_set hk] at hP1
  exact kk H1 locs1 ls hP1 hS1 hlv
theorem A_objInit (C : kCx E own cc nL ret) (pc' : Nat) {idx a : Nat} (hlink : Cond.methodLink own idx ⟨"java/lang/Object", "<init>", "()V"⟩ ∈ gTB) (hf : 1 ≤ (e_R E).frames) (hlo : 20 ≤ (e_R E).locals) (hL : L.length = nL) (hW : (st.map fun v => v.category).sum ≤ 4) (hd : decode cc pc = .ok (.invokespecial idx, 3)) (hp : pc + 3 = pc') (kk : AW E N b n ck cs Q pc' L st en) : AW E N b n ck cs Q pc L (.ref a :: st) en := by
  subst hp
  intro H locs ls hP hS hl
  exact W.objInit C.1 C.2.1 C.2.2.2.1 (C.2.2.2.2.1 _ hlink) (C.2.2.2.2.1 _ w_28) (C.2.2.2.2.1 _ w_29) rfl ((hl.1.trans hL).trans C.2.2.1.symm) rfl hd hf (by show 2 * 0 + (st.map fun v => v.category).sum + 12 ≤ _; omega) (kk H locs ls hP hS hl)
def iMt (y : MethodName) (cc : ByteArray) (nL d N ck cs : Nat) (As : List Value) (e0 : va_E) (en : (Nat → ClassId) → Nat → Nat → va_E) : Prop := ∀ (l : Launch) (D : va_G) (cA : Nat → ClassId) (b : Nat), Met l y (.code y cc nL none :: gTB) { frames := d, cells := ck, slots := cs, locals := 64 * d } (va_Pc (.ref b :: As) (fun U => U.heap.size = b + 1 ∧ va_P D vwCl [(b, e0)] U.heap ∧ va_K D vwCl (gT cA) U ∧ kJ U)) (va_Qv (fun _ : Unit => True) (fun _ t => va_P D vwCl (cR b N (en cA b)) t.heap) (rA b N)) ck cs (rA b N)
def iFin (E : gE) (b N : Nat) (en : (Nat → ClassId) → Nat → Nat → va_E) : State → Prop := MQ (e_b E) (va_Qv (fun _ : Unit => True) (fun _ t => va_P (e_D E) vwCl (cR b N (en (e_cA E) b)) t.heap) (rA b N)) (e_a E) (e_s E) (e_ck E) (e_cs E) (rA b N)
theorem iMt_of {y : MethodName} {cc' : ByteArray} {nL' d N' ck' cs' : Nat} {As : List Value} {e0 : va_E} {en' : (Nat → ClassId) → Nat → Nat → va_E} (hy : plainFor y = true) (L0 : Nat → List (Option Value)) (hL : ∀ b, gl (L0 b) 0 = lv_args 0 (.ref b :: As)) (hn : ∀ b, (L0 b).length = nL') (hl : ∀ b, (lg_sl (.ref b :: As)).length ≤ nL')
    (body : ∀ (E : gE) (b : Nat), kCx E y.cls cc' nL' none → kJ (e_s E) → (e_M E).name = y.name → d ≤ (e_R E).frames → 64 * d ≤ (e_R E).locals → ck' ≤ (e_R E).cells → cs' ≤ (e_R E).slots → (e_s E).heap.size + 0 = b + 1 → e_ck E = ck' → e_cs E = cs' → AW E N' b 1 0 0 (iFin E b N' en') 0 (L0 b) [] (fun _ => e0)) : iMt y cc' nL' d N' ck' cs' As e0 en' := by
  intro l D cA b0
  refine g_ofWF (cc := cc') (maxL := nL') (ret := none) hy rfl ?_
  intro p e s m args below meth c s₁ B hml hv
  obtain ⟨rfl, hz, hP, hK, hJ⟩ := hv
  have hts := atoms_spec (ws := .code y cc' nL' none :: gTB) B.pre
  rw [lg_entry_eq]
  exact body (p, l, e, { frames := d, cells := ck', slots := cs', locals := 64 * d }, s, m, (.ref b0 :: As).toArray, below, meth, c, D, cA, fun _ => 0, fun _ => 0, ck', cs') b0
    ⟨B.exec, B.bytes, hml, findClass_of_methodNamed B.named, fun w hw => hts w (List.mem_cons_of_mem _ hw), B.returns, B.notSynchronized, hK⟩ hJ (name_of_methodNamed B.named B.method).1 (Nat.le_refl _) (Nat.le_refl _) (Nat.le_refl _) (Nat.le_refl _) hz rfl rfl
    s.heap [] _ (by
      intro k q hq
      obtain ⟨hk, rfl⟩ := cR_inv hq
      rw [show k = 0 by omega]
      exact hP 0 _ rfl) va_S.rf (show lv_has _ (L0 b0).length (gl (L0 b0) 0) by rw [hn, hL]; exact lv_entry (.ref b0 :: As) (hl b0))
theorem A_vret {en' : (Nat → ClassId) → Nat → Nat → va_E} (C : kCx E own cc nL none) (hck : ck = e_ck E) (hcs : cs = e_cs E) (hd : decode cc pc = .ok (.return_, 1)) (hen : ∀ k, 0 ≤ k → k < N → en k = en' (e_cA E) b k) : AW E N b N ck cs (iFin E b N en') pc L [] en := by
  subst hck hcs
  intro H locs ls hP hS hl
  have hP' : va_P (e_D E) vwCl (cR b N (en' (e_cA E) b)) H := by
    intro k q hq
    obtain ⟨hk, rfl⟩ := cR_inv hq
    rw [← hen k (Nat.zero_le k) hk]
    exact hP k _ (cR_at hk)
  exact W.vret C.1 C.2.1 C.2.2.2.2.2.1 (fun t ht hW => ⟨⟨(), rfl, trivial, by subst ht; exact hP'⟩, hS.F ht⟩) hS.2.2 hd C.2.2.2.2.2.2.1
theorem A_init (C : kCx E own cc nL ret) (hJ : kJ (e_s E)) (pc' : Nat) {idx n0 d' nL' N' ck' cs' nA : Nat} {y : MethodName} {cc' : ByteArray} {host : String} {As : List Value} {e0 : va_E} {en' : (Nat → ClassId) → Nat → Nat → va_E} (M : iMt y cc' nL' d' N' ck' cs' As e0 en') (Kc : gKc y cc' nL' none nA) (hlk : Cond.methodLinkNest own idx y host ∈ gNB) (hini : Cond.initialized y.cls ∈ gTB) (hin : Cond.instanceMethod y ∈ gTB) (hname : y.name = "<init>") (hR : d' + 1 ≤ (e_R E).frames ∧ 8 + (nL' + 11) + 64 * d' ≤ (e_R E).locals) (hck : ck + ck' ≤ (e_R E).cells) (hcs : cs + cs' ≤ (e_R E).slots) (hsz : (e_s E).heap.size + ck = b + (n0 + 1)) (hN : n0 + N' ≤ N) (hN1 : 1 ≤ N') (he : en n0 = e0)
    (hn : As.length = nA) (hst : st0 = As.reverse ++ .ref (b + n0) :: st) (hW : (st.map fun v => v.category).sum ≤ 8) (hL : L.length = nL) (hd : decode cc pc = .ok (.invokespecial idx, 3)) (hp : pc + 3 = pc') (kk : AW E N b (n0 + N') (ck + ck') (cs + cs') Q pc' L st (e_ct en n0 (en' (e_cA E) (b + n0)))) : AW E N b (n0 + 1) ck cs Q pc L st0 en := by
  subst hp
  intro H locs ls hP hS hl
  refine AW_sz hP hS hsz (Or.inl (by omega)) (fun hz => ?_)
  obtain ⟨c1, c2, c3, c4, c5⟩ := Kc
  have hg : GoodIn gTB (.code y cc' nL' none :: gTB) := by
    refine gTB_in fun w hw => ?_
    simp only [List.mem_cons] at hw
    rcases hw with rfl | h <;> assumption
  have hsub : ∀ q, rA (b + n0) N' q → rA b N q := fun q h => ⟨by have := h.1; omega, by have := h.2; omega⟩
  refine va_callv (va_runIN ⟨C.1, C.2.1, C.2.2.1, C.2.2.2.1, C.2.2.2.2.1⟩ (M (e_l E) (e_D E) (e_cA E) (b + n0)) ⟨va_cnB nA C.2.2.2.2.1 hg rfl rfl rfl (hJ.1 _ hlk) (C.2.2.2.2.1 _ hini) ⟨c2, c3, c4⟩ hR, hname, C.2.2.2.2.1 _ hin⟩ ⟨fun a U g mk h => ?_, fun U hU hWU => ⟨rfl, ?_, ?_, va_K.moved hWU.alike C.2.2.2.2.2.2.2, hJ.warm hWU⟩⟩ rfl hn (hl.1.trans hL) hst (lv_room hW) hd ⟨hck, hcs⟩) hS (fun q _ h => hsub q h) hsub (fun u t H1 locs1 ht hvm hpost hB hsz1 hk1 hS1 => ?_)
  · obtain ⟨h1, h2, h3, h4, h5⟩ := h
    exact ⟨h1, h2, h3, va_K.moved (u := U) (U := U.calling g mk a) (Vm.Alike.refl U.vm) h4, kJ.same (u := U) (U := U.calling g mk a) rfl h5⟩
  · rw [hU, hz]
    omega
  · rw [hU, ← he]
    exact A_one (hP n0 _ (cR_at (by omega)))
  · refine kk H1 locs1 ls ?_ hS1 hl
    rw [ht] at hB
    intro k q hq
    obtain ⟨hk, rfl⟩ := cR_inv hq
    by_cases hkn : k < n0
    · show va_at (e_D E) vwCl (b + k, if k < n0 then en k else _) H1
      rw [if_pos hkn]
      refine (hP k _ (cR_at (by omega))).kept (hk1 (b + k) (by omega) (fun z => ?_))
      have := z.1
      omega
    · show va_at (e_D E) vwCl (b + k, if k < n0 then en k else en' (e_cA E) (b + n0) (k - n0)) H1
      rw [if_neg hkn]
      have h2 := hB (k - n0) _ (cR_at (by omega))
      rw [show b + n0 + (k - n0) = b + k by omega] at h2
      exact h2
theorem A_toG {S : gSd} {σ : gS} (hN : S.1 = N) (had : e_ad E = fun k => b + k) (hck : ck = e_ck E) (hcs : cs = e_cs E) (hent : ∀ k, 0 ≤ k → k < N → ∀ H, va_at (e_D E) vwCl (b + k, en k) H → va_at (e_D E) vwCl (b + k, S.2.2.1 (e_cA E) (e_ad E) σ k) H) (hz : gz S σ) (kk : GW S E Q pc L st σ) : AW E N b N ck cs Q pc L st en := by
  subst hck hcs
  intro H locs ls hP hS hl
  refine kk H locs ls ?_ ?_ hl hz
  · intro k q hq
    obtain ⟨hk, rfl⟩ := gPic_inv hq
    rw [hN] at hk
    have := hent k (Nat.zero_le k) hk H (hP k _ (cR_at hk))
    rw [had] at this ⊢
    exact this
  · have hA : ∀ q, rA b N q ↔ gA S (e_ad E) q := by
      intro q
      constructor
      · intro h
        refine ⟨q - b, by rw [hN]; have := h.2; have := h.1; omega, ?_⟩
        rw [had]
        have := h.1
        show q = b + (q - b)
        omega
      · rintro ⟨k, hk, rfl⟩
        rw [had]
        rw [hN] at hk
        exact ⟨Nat.le_add_right _ _, by show b + k < b + N; omega⟩
    exact ⟨hS.1, fun q h1 h2 => hS.2.1 q h1 (fun z => h2 ((hA q).mp z)), fun q hq => (hA _).mp (hS.2.2 q hq)⟩
end AR
theorem arrV_cg {cA : ClassId} {n : Nat} {f g : Nat → Value} (h : ∀ j, j < n → f j = g j) : arrV cA n f = arrV cA n g := by
  unfold arrV
  congr 1
  apply Array.ext
  · simp
  · intro i h1 h2
    simp only [Array.size_ofFn] at h1
    simp [h i h1]
theorem at_i {D : va_G} {q n : Nat} {cA : ClassId} {f g : Nat → Int32} {H : Heap} (h : ∀ j, j < n → f j = g j) (a : va_at D vwCl (q, .inl (cA, n, .inl f)) H) : va_at D vwCl (q, .inl (cA, n, .inl g)) H := by
  show H[q]? = some (vp_cell cA (n, .inl g))
  have a2 : H[q]? = some (vp_cell cA (n, .inl f)) := a
  rw [a2, vp_cell_i, vp_cell_i, arrV_cg (fun j hj => by rw [h j hj])]
theorem at_q {D : va_G} {q n : Nat} {cA : ClassId} {f g : Nat → Option Nat} {H : Heap} (h : ∀ j, j < n → f j = g j) (a : va_at D vwCl (q, .inl (cA, n, gRefs f)) H) : va_at D vwCl (q, .inl (cA, n, gRefs g)) H := by
  show H[q]? = some (vp_cell cA (n, gRefs g))
  have a2 : H[q]? = some (vp_cell cA (n, gRefs f)) := a
  rw [a2]
  unfold gRefs
  rw [vp_cell_q, vp_cell_q, arrV_cg (fun j hj => by rw [h j hj])]
section AP
variable {E : gE} {own : String} {cc : ByteArray} {nL : Nat} {ret : Option FieldType} {N b n ck cs : Nat} {Q : State → Prop} {pc : Nat} {L L' : List (Option Value)} {st : List Value} {en : Nat → va_E}
theorem A_iconst (C : kCx E own cc nL ret) (pc' : Nat) {n0 : Int} {v : Int32} (hd : decode cc pc = .ok (.iconst n0, 1)) (hp : pc + 1 = pc') (hv : Int32.ofInt n0 = v) (k : AW E N b n ck cs Q pc' L (.int v :: st) en) : AW E N b n ck cs Q pc L st en := by
  subst hp
  exact fun H locs ls hP hS hl => lv_iconst C.1 C.2.1 hd hv (k H locs ls hP hS hl)
theorem A_bipush (C : kCx E own cc nL ret) (pc' : Nat) {n0 : Int} {v : Int32} (hd : decode cc pc = .ok (.bipush n0, 2)) (hp : pc + 2 = pc') (hv : (Int8.ofInt n0).toInt32 = v) (k : AW E N b n ck cs Q pc' L (.int v :: st) en) : AW E N b n ck cs Q pc L st en := by
  subst hp
  exact fun H locs ls hP hS hl => lv_bipush C.1 C.2.1 hd hv (k H locs ls hP hS hl)
theorem A_sipush (C : kCx E own cc nL ret) (pc' : Nat) {n0 : Int} {v : Int32} (hd : decode cc pc = .ok (.sipush n0, 3)) (hp : pc + 3 = pc') (hv : (Int16.ofInt n0).toInt32 = v) (k : AW E N b n ck cs Q pc' L (.int v :: st) en) : AW E N b n ck cs Q pc L st en := by
  subst hp
  exact fun H locs ls hP hS hl => lv_sipush C.1 C.2.1 hd hv (k H locs ls hP hS hl)
theorem A_iload_n (C : kCx E own cc nL ret) (pc' : Nat) {kk : Fin 4} {i : Nat} {x : Int32} (hd : decode cc pc = .ok (.iload_n kk, 1)) (hp : pc + 1 = pc') (hi : (kk : Nat) = i) (hL : L[i]? = some (some (.int x))) (k : AW E N b n ck cs Q pc' L (.int x :: st) en) : AW E N b n ck cs Q pc L st en := by
  subst hp
  exact fun H locs ls hP hS hl => lv_iload_n C.1 C.2.1 hd hi (lvx_at hl hL) (k H locs ls hP hS hl)
theorem A_aload_n (C : kCx E own cc nL ret) (pc' : Nat) {kk : Fin 4} {i : Nat} {x : Nat} (hd : decode cc pc = .ok (.aload_n kk, 1)) (hp : pc + 1 = pc') (hi : (kk : Nat) = i) (hL : L[i]? = some (some (.ref x))) (k : AW E N b n ck cs Q pc' L (.ref x :: st) en) : AW E N b n ck cs Q pc L st en := by
  subst hp
  exact fun H locs ls hP hS hl => lv_aload_n C.1 C.2.1 hd hi (lvx_at hl hL) (k H locs ls hP hS hl)
theorem A_istore_n (C : kCx E own cc nL ret) (pc' : Nat) {kk : Fin 4} {i : Nat} {x : Int32} (hd : decode cc pc = .ok (.istore_n kk, 1)) (hp : pc + 1 = pc') (hi : (kk : Nat) = i) (hn : i < L.length) (hL : L.set i (some (.int x)) = L') (hc : g_ok1 L i = true) (k : AW E N b n ck cs Q pc' L' st en) : AW E N b n ck cs Q pc L (.int x :: st) en := by
  subst hp
  exact fun H locs ls hP hS hl => lv_istore_n C.1 C.2.1 hd hi hl hn rfl (fun ls' h' => k H locs ls' hP hS (lvx_set hL hc h'))
theorem A_astore_n (C : kCx E own cc nL ret) (pc' : Nat) {kk : Fin 4} {i : Nat} {x : Nat} (hd : decode cc pc = .ok (.astore_n kk, 1)) (hp : pc + 1 = pc') (hi : (kk : Nat) = i) (hn : i < L.length) (hL : L.set i (some (.ref x)) = L') (hc : g_ok1 L i = true) (k : AW E N b n ck cs Q pc' L' st en) : AW E N b n ck cs Q pc L (.ref x :: st) en := by
  subst hp
  exact fun H locs ls hP hS hl => lv_astore_n C.1 C.2.1 hd hi hl hn rfl (fun ls' h' => k H locs ls' hP hS (lvx_set hL hc h'))
theorem A_iinc (C : kCx E own cc nL ret) (pc' : Nat) {i : Nat} {n0 : Int} {x w : Int32} (hd : decode cc pc = .ok (.iinc i n0, 3)) (hp : pc + 3 = pc') (hi : L[i]? = some (some (.int x))) (hw : Int32.ofInt n0 = w) (hc : g_ok1 L i = true) (k : ∀ v : Int32, v = x + w → AW E N b n ck cs Q pc' (L.set i (some (.int v))) st en) : AW E N b n ck cs Q pc L st en := by
  subst hp
  intro H locs ls hP hS hl
  obtain ⟨q, hq⟩ := List.getElem?_of_mem (gl_mem0.mpr hi)
  have hn : i < L.length := (List.getElem?_eq_some_iff.mp hi).1
  exact lv_iinc C.1 C.2.1 hd hl hq (by rw [hw]) hn rfl (fun ls' h' => k _ rfl H locs ls' hP hS (lvx_set rfl hc h'))
theorem A_dup (C : kCx E own cc nL ret) (pc' : Nat) {v : Value} (hd : decode cc pc = .ok (.dup, 1)) (hp : pc + 1 = pc') (hv : v.category = 1) (k : AW E N b n ck cs Q pc' L (v :: v :: st) en) : AW E N b n ck cs Q pc L (v :: st) en := by
  subst hp
  exact fun H locs ls hP hS hl => lv_dup C.1 C.2.1 hd hv (k H locs ls hP hS hl)
theorem A_pop (C : kCx E own cc nL ret) (pc' : Nat) {v : Value} (hd : decode cc pc = .ok (.pop, 1)) (hp : pc + 1 = pc') (hv : v.category = 1) (k : AW E N b n ck cs Q pc' L st en) : AW E N b n ck cs Q pc L (v :: st) en := by
  subst hp
  exact fun H locs ls hP hS hl => lv_pop C.1 C.2.1 hd hv (k H locs ls hP hS hl)
theorem A_goto (C : kCx E own cc nL ret) (tgt : Nat) {off : Int} (hd : decode cc pc = .ok (.goto off, 3)) (ht : (pc : Int) + off = (tgt : Int)) (k : AW E N b n ck cs Q tgt L st en) : AW E N b n ck cs Q pc L st en :=
  fun H locs ls hP hS hl => lv_goto C.1 C.2.1 hd ht (k H locs ls hP hS hl)
theorem A_icmp_ge (C : kCx E own cc nL ret) (tgt pc' : Nat) {x y : Int32} {off : Int} (hd : decode cc pc = .ok (.if_icmp .ge off, 3)) (ht : (pc : Int) + off = (tgt : Int)) (hp : pc + 3 = pc') (kt : ¬ x < y → AW E N b n ck cs Q tgt L st en) (kf : x < y → AW E N b n ck cs Q pc' L st en) : AW E N b n ck cs Q pc L (.int y :: .int x :: st) en := by
  subst hp
  exact fun H locs ls hP hS hl => lv_icmp_ge C.1 C.2.1 hd ht (fun h => (fun h => kt (Int32.not_lt.mpr h)) h H locs ls hP hS hl) (fun h => (fun h => kf (Int32.not_le.mp h)) h H locs ls hP hS hl)
end AP
