def gRun (S : gSd) (E : gE) (pc : Nat) (L : List (Option Value)) (st0 rest : List Value) (σ : gS) (Qa : State → Outcome → State → Prop) : Prop :=
  ∀ (H : Heap) (locs : List Loc) (ls : Array Slot), va_P (e_D E) vwCl (gPic S (e_cA E) (e_ad E) σ) H → va_S (gA S (e_ad E)) (e_s E).heap H locs → lvx ls L → gz S σ →
    va_Run (e_p E) (e_l E) (e_e E) (e_R E) (e_s E) (e_m E) (e_a E) (e_b E) (e_M E) (e_c E) H locs (e_ck E) (e_cs E) 0 0 (F0 (e_m E) pc ls st0) rest Qa (gA S (e_ad E))
theorem gBlind {S : gSd} (ok : gOk S) {D : va_G} {cA : Nat → ClassId} {ad z : Nat → Nat} {σ : gS} {av : List Value} : FrameBlind (va_Pc av (gPre S D cA ad z σ)) := by
  intro a U g mk h
  obtain ⟨h1, h2, h3, h4, h5, h6⟩ := h
  exact ⟨h1, h2, va_K.moved (u := U) (U := U.calling g mk a) (Vm.Alike.refl U.vm) h3, h4, h5, ok.2.1 z _ U _ _ rfl h6⟩
theorem gPre_at {S : gSd} {E : gE} {own : String} {cc : ByteArray} {nL : Nat} {ret : Option FieldType} {d : Nat} {σ : gS} (C : gCx S E own cc nL ret d) {H : Heap} {locs : List Loc} (hP : va_P (e_D E) vwCl (gPic S (e_cA E) (e_ad E) σ) H) (hS : va_S (gA S (e_ad E)) (e_s E).heap H locs) (hz : gz S σ) {U : State} (hU : U.heap = H) (hW : State.WarmedH (e_s E) U.vm) : gPre S (e_D E) (e_cA E) (e_ad E) (e_z E) σ U := by
  obtain ⟨-, -, -, -, -, -, -, hK, hI, hJ, ok, -, -, -, -⟩ := C
  refine ⟨by rw [hU]; exact hP, va_K.moved hW.alike hK, hz, hI, ?_⟩
  rw [hU]
  exact ok.2.2.1 _ _ _ _ _ (ok.1 _ _ _ _ _ hW hJ) hS.2.1
def gKc (y : MethodName) (cc' : ByteArray) (nL' : Nat) (ret' : Option FieldType) (n : Nat) : Prop := Cond.code y cc' nL' ret' ∈ gTB ∧ y.cls ≠ "java/lang/invoke/MethodHandle" ∧ y.cls ≠ "java/lang/invoke/VarHandle" ∧ (parseMethodDescriptor y.desc).map (fun d => d.parameters.length) = some n ∧ nL' ≤ 40
def gKV (own : String) (idx : Nat) (y : MethodName) : Prop := Cond.methodLink own idx y ∈ gTB ∧ Cond.instanceMethod y ∈ gTB ∧ Cond.selects y.cls y y ∈ gTB ∧ Cond.initialized y.cls ∈ gTB
def gKS (own : String) (idx : Nat) (y : MethodName) : Prop := Cond.methodLink own idx y ∈ gTB ∧ Cond.static y ∈ gTB ∧ Cond.initialized y.cls ∈ gTB
def gKN (S : gSd) (own host : String) (idx : Nat) (y : MethodName) : Prop := (∀ z A U H, S.2.2.2 z A U H → va_Nw (Cond.methodLinkNest own idx y host) U) ∧ Cond.static y ∈ gTB ∧ Cond.initialized y.cls ∈ gTB
def gKP (own : String) (idx : Nat) (y : MethodName) : Prop := Cond.methodLink own idx y ∈ gTB ∧ Cond.sameMethod y.cls y.cls y.name y.desc ∈ gTB ∧ Cond.superclass own y.cls ∈ gTB ∧ Cond.instanceMethod y ∈ gTB ∧ Cond.initialized y.cls ∈ gTB ∧ y.name ≠ "<init>"
def gKU (own : String) (idx : Nat) (Cn owner : String) (x y : MethodName) : Prop := Cond.methodLink own idx x ∈ gTB ∧ Cond.sameMethod x.cls owner x.name x.desc ∈ gTB ∧ Cond.selects Cn x y ∈ gTB ∧ Cond.instanceMethod y ∈ gTB ∧ Cond.initialized y.cls ∈ gTB ∧ y = ⟨owner, x.name, x.desc⟩ ∧ owner ≠ "java/lang/invoke/MethodHandle" ∧ owner ≠ "java/lang/invoke/VarHandle"
def gKO (own : String) (idx : Nat) (Cn owner : String) (x y : MethodName) : Prop := Cond.methodLink own idx x ∈ gTB ∧ Cond.sameMethod x.cls owner x.name x.desc ∈ gTB ∧ Cond.instanceMethod ⟨owner, x.name, x.desc⟩ ∈ gTB ∧ Cond.selects Cn x y ∈ gTB ∧ Cond.instanceMethod y ∈ gTB ∧ Cond.initialized y.cls ∈ gTB ∧ (∃ b0 m0 r0, Cond.code ⟨owner, x.name, x.desc⟩ b0 m0 r0 ∈ gTB) ∧ owner ≠ "java/lang/invoke/MethodHandle" ∧ owner ≠ "java/lang/invoke/VarHandle" ∧ y.desc = x.desc
theorem gTB_in {ws : List Cond} (h : ∀ w ∈ ws, w ∈ gTB) : GoodIn gTB ws := fun w hw => ⟨h w hw, good_of_word (gTB_good w (h w hw)).2⟩
section GC
variable {S : gSd} {E : gE} {own : String} {cc : ByteArray} {nL : Nat} {ret : Option FieldType} {d : Nat} {Q : State → Prop} {pc : Nat} {L L' : List (Option Value)} {st0 rest : List Value} {σ : gS}
variable {idx n d' nL' k ci N : Nat} {y : MethodName} {Cn : String} {T : u_T} {cc' : ByteArray} {ret' : Option FieldType} {As : (Nat → Nat) → List Value} {As' : List Value} {fs : List Value} {Qc : gQc}
theorem gRoom (C : gCx S E own cc nL ret d) (hn : nL' ≤ 40) (hd : d' < d) : (gRm d').frames + 1 ≤ (e_R E).frames ∧ 8 + (nL' + 11) + (gRm d').locals ≤ (e_R E).locals := by
  have h1 := C.2.2.2.2.2.2.2.2.2.2.2.1
  have h2 := C.2.2.2.2.2.2.2.2.2.2.2.2.1
  show d' + 1 ≤ (e_R E).frames ∧ 8 + (nL' + 11) + 64 * d' ≤ (e_R E).locals
  omega
theorem gRoom0 (C : gCx S E own cc nL ret d) : e_ck E + 0 ≤ (e_R E).cells ∧ e_cs E + 0 ≤ (e_R E).slots := ⟨C.2.2.2.2.2.2.2.2.2.2.2.2.2.1, C.2.2.2.2.2.2.2.2.2.2.2.2.2.2⟩
theorem G_runV (C : gCx S E own cc nL ret d) (Kc : gKc y cc' nL' ret' n) (K : gKV own idx y) (hdd : d' < d) (hk : k < S.1) (he : S.2.2.1 (e_cA E) (e_ad E) σ k = .inr (ci, fs)) (hc : vwCl[ci]? = some (y.cls, T, N)) (M : gMt S y cc' nL' ret' d' As σ Qc) (hA : As (e_ad E) = .ref (e_ad E k) :: As') (hn : As'.length = n) (hst : st0 = As'.reverse ++ .ref (e_ad E k) :: rest) (hW : (rest.map fun v => v.category).sum ≤ 8) (hL : L.length = nL) (hd : decode cc pc = .ok (.invokevirtual idx, 3)) :
    gRun S E pc L st0 rest σ (Qc (e_D E) (e_cA E) (e_ad E) (As (e_ad E)).toArray) := by
  intro H locs ls hP hS hl hz
  obtain ⟨c1, c2, c3, c4, c5⟩ := Kc
  obtain ⟨k1, k2, k3, k4⟩ := K
  have hM := M (e_l E) (e_D E) (e_cA E) (e_ad E) (e_z E)
  rw [hA] at hM ⊢
  have hg : GoodIn gTB (wsV own idx y.cls y (.code y cc' nL' ret' :: gTB)) := by
    refine gTB_in fun w hw => ?_
    simp only [wsV, List.cons_append, List.nil_append, List.mem_cons] at hw
    rcases hw with rfl | rfl | rfl | rfl | rfl | h <;> assumption
  exact va_runV ⟨C.1, C.2.1, C.2.2.1, C.2.2.2.1, C.2.2.2.2.1⟩ hM (cwV n C.2.2.2.2.1 hg rfl rfl rfl ⟨rfl, c2, c3, c4⟩ (gRoom C c5 hdd)) ⟨gBlind C.2.2.2.2.2.2.2.2.2.2.1, va_recv C.2.2.2.2.2.2.2.1 hP hc (by rw [gPic_at hk, he]), fun U hU hWU => ⟨rfl, gPre_at C hP hS hz hU hWU⟩⟩ rfl hn (hl.1.trans hL) hst (lv_room hW) hd (gRoom0 C)
theorem G_runS (C : gCx S E own cc nL ret d) (Kc : gKc y cc' nL' ret' n) (K : gKS own idx y) (hdd : d' < d) (M : gMt S y cc' nL' ret' d' As σ Qc) (hn : (As (e_ad E)).length = n) (hst : st0 = (As (e_ad E)).reverse ++ rest) (hW : (rest.map fun v => v.category).sum ≤ 8) (hL : L.length = nL) (hd : decode cc pc = .ok (.invokestatic idx, 3)) :
    gRun S E pc L st0 rest σ (Qc (e_D E) (e_cA E) (e_ad E) (As (e_ad E)).toArray) := by
  intro H locs ls hP hS hl hz
  obtain ⟨c1, c2, c3, c4, c5⟩ := Kc
  obtain ⟨k1, k2, k3⟩ := K
  have hM := M (e_l E) (e_D E) (e_cA E) (e_ad E) (e_z E)
  have hg : GoodIn gTB (va_wsS own idx y (.code y cc' nL' ret' :: gTB)) := by
    refine gTB_in fun w hw => ?_
    simp only [va_wsS, List.cons_append, List.nil_append, List.mem_cons] at hw
    rcases hw with rfl | rfl | rfl | rfl | h <;> assumption
  exact va_runS ⟨C.1, C.2.1, C.2.2.1, C.2.2.2.1, C.2.2.2.2.1⟩ hM (va_cwS n C.2.2.2.2.1 hg rfl rfl rfl ⟨c2, c3, c4⟩ (gRoom C c5 hdd)) ⟨gBlind C.2.2.2.2.2.2.2.2.2.2.1, fun U hU hWU => ⟨rfl, gPre_at C hP hS hz hU hWU⟩⟩ rfl hn (hl.1.trans hL) hst (lv_room hW) hd (gRoom0 C)
theorem G_runN {host : String} (C : gCx S E own cc nL ret d) (Kc : gKc y cc' nL' ret' n) (K : gKN S own host idx y) (hdd : d' < d) (M : gMt S y cc' nL' ret' d' As σ Qc) (hn : (As (e_ad E)).length = n) (hst : st0 = (As (e_ad E)).reverse ++ rest) (hW : (rest.map fun v => v.category).sum ≤ 8) (hL : L.length = nL) (hd : decode cc pc = .ok (.invokestatic idx, 3)) :
    gRun S E pc L st0 rest σ (Qc (e_D E) (e_cA E) (e_ad E) (As (e_ad E)).toArray) := by
  intro H locs ls hP hS hl hz
  obtain ⟨c1, c2, c3, c4, c5⟩ := Kc
  obtain ⟨k1, k2, k3⟩ := K
  have hM := M (e_l E) (e_D E) (e_cA E) (e_ad E) (e_z E)
  have hg : GoodIn gTB (.code y cc' nL' ret' :: gTB) := by
    refine gTB_in fun w hw => ?_
    simp only [List.mem_cons] at hw
    rcases hw with rfl | h <;> assumption
  exact va_runSN ⟨C.1, C.2.1, C.2.2.1, C.2.2.2.1, C.2.2.2.2.1⟩ hM ⟨va_cnB n C.2.2.2.2.1 hg rfl rfl rfl (k1 _ _ _ _ C.2.2.2.2.2.2.2.2.2.1) (C.2.2.2.2.1 _ k3) ⟨c2, c3, c4⟩ (gRoom C c5 hdd), C.2.2.2.2.1 _ k2, trivial⟩ ⟨gBlind C.2.2.2.2.2.2.2.2.2.2.1, fun U hU hWU => ⟨rfl, gPre_at C hP hS hz hU hWU⟩⟩ rfl hn (hl.1.trans hL) hst (lv_room hW) hd (gRoom0 C)
theorem G_runP (C : gCx S E own cc nL ret d) (Kc : gKc y cc' nL' ret' n) (K : gKP own idx y) (hdd : d' < d) (hk : k < S.1) (he : S.2.2.1 (e_cA E) (e_ad E) σ k = .inr (ci, fs)) (hc : vwCl[ci]? = some (Cn, T, N)) (M : gMt S y cc' nL' ret' d' As σ Qc) (hA : As (e_ad E) = .ref (e_ad E k) :: As') (hn : As'.length = n) (hst : st0 = As'.reverse ++ .ref (e_ad E k) :: rest) (hW : (rest.map fun v => v.category).sum ≤ 8) (hL : L.length = nL) (hd : decode cc pc = .ok (.invokespecial idx, 3)) :
    gRun S E pc L st0 rest σ (Qc (e_D E) (e_cA E) (e_ad E) (As (e_ad E)).toArray) := by
  intro H locs ls hP hS hl hz
  obtain ⟨c1, c2, c3, c4, c5⟩ := Kc
  obtain ⟨k1, k2, k3, k4, k5, k6⟩ := K
  have hM := M (e_l E) (e_D E) (e_cA E) (e_ad E) (e_z E)
  rw [hA] at hM ⊢
  have hg : GoodIn gTB (va_wsSU own idx y (.code y cc' nL' ret' :: gTB)) := by
    refine gTB_in fun w hw => ?_
    simp only [va_wsSU, List.cons_append, List.nil_append, List.mem_cons] at hw
    rcases hw with rfl | rfl | rfl | rfl | rfl | rfl | h <;> assumption
  exact va_runSU (C := Cn) (C.2.2.2.2.2.2.2.1.1 ci _ hc).2 ⟨C.1, C.2.1, C.2.2.1, C.2.2.2.1, C.2.2.2.2.1⟩ hM (va_cwSU n C.2.2.2.2.1 hg rfl rfl rfl ⟨k6, c4⟩ (gRoom C c5 hdd)) ⟨gBlind C.2.2.2.2.2.2.2.2.2.2.1, va_recv C.2.2.2.2.2.2.2.1 hP hc (by rw [gPic_at hk, he]), fun U hU hWU => ⟨rfl, gPre_at C hP hS hz hU hWU⟩⟩ rfl hn (hl.1.trans hL) hst (lv_room hW) hd (gRoom0 C)
theorem G_runU {owner : String} {x : MethodName} (C : gCx S E own cc nL ret d) (Kc : gKc y cc' nL' ret' n) (K : gKU own idx Cn owner x y) (hdd : d' < d) (hk : k < S.1) (he : S.2.2.1 (e_cA E) (e_ad E) σ k = .inr (ci, fs)) (hc : vwCl[ci]? = some (Cn, T, N)) (M : gMt S y cc' nL' ret' d' As σ Qc) (hA : As (e_ad E) = .ref (e_ad E k) :: As') (hn : As'.length = n) (hst : st0 = As'.reverse ++ .ref (e_ad E k) :: rest) (hW : (rest.map fun v => v.category).sum ≤ 8) (hL : L.length = nL) (hd : decode cc pc = .ok (.invokevirtual idx, 3)) :
    gRun S E pc L st0 rest σ (Qc (e_D E) (e_cA E) (e_ad E) (As (e_ad E)).toArray) := by
  intro H locs ls hP hS hl hz
  obtain ⟨c1, c2, c3, c4, c5⟩ := Kc
  obtain ⟨k1, k2, k3, k4, k5, k6, k7, k8⟩ := K
  have hM := M (e_l E) (e_D E) (e_cA E) (e_ad E) (e_z E)
  rw [hA] at hM ⊢
  have hg : GoodIn gTB (va_wsU own idx Cn owner x y (.code y cc' nL' ret' :: gTB)) := by
    refine gTB_in fun w hw => ?_
    simp only [va_wsU, List.cons_append, List.nil_append, List.mem_cons] at hw
    rcases hw with rfl | rfl | rfl | rfl | rfl | rfl | h <;> assumption
  have hx : x.desc = y.desc := by rw [k6]
  exact va_runU ⟨C.1, C.2.1, C.2.2.1, C.2.2.2.1, C.2.2.2.2.1⟩ hM (va_cwU (C := Cn) (owner := owner) (x := x) n C.2.2.2.2.1 hg rfl rfl rfl k6 ⟨k7, k8, by rw [hx]; exact c4⟩ (gRoom C c5 hdd)) ⟨gBlind C.2.2.2.2.2.2.2.2.2.2.1, va_recv C.2.2.2.2.2.2.2.1 hP hc (by rw [gPic_at hk, he]), fun U hU hWU => ⟨rfl, gPre_at C hP hS hz hU hWU⟩⟩ rfl hn (hl.1.trans hL) hst (lv_room hW) hd (gRoom0 C)
theorem G_runO {owner : String} {x : MethodName} (C : gCx S E own cc nL ret d) (Kc : gKc y cc' nL' ret' n) (K : gKO own idx Cn owner x y) (hdd : d' < d) (hk : k < S.1) (he : S.2.2.1 (e_cA E) (e_ad E) σ k = .inr (ci, fs)) (hc : vwCl[ci]? = some (Cn, T, N)) (M : gMt S y cc' nL' ret' d' As σ Qc) (hA : As (e_ad E) = .ref (e_ad E k) :: As') (hn : As'.length = n) (hst : st0 = As'.reverse ++ .ref (e_ad E k) :: rest) (hW : (rest.map fun v => v.category).sum ≤ 8) (hL : L.length = nL) (hd : decode cc pc = .ok (.invokevirtual idx, 3)) :
    gRun S E pc L st0 rest σ (Qc (e_D E) (e_cA E) (e_ad E) (As (e_ad E)).toArray) := by
  intro H locs ls hP hS hl hz
  obtain ⟨c1, c2, c3, c4, c5⟩ := Kc
  obtain ⟨k1, k2, k3, k4, k5, k6, ⟨b0, m0, r0, k7⟩, k8, k9, k10⟩ := K
  have hM := M (e_l E) (e_D E) (e_cA E) (e_ad E) (e_z E)
  rw [hA] at hM ⊢
  have hg : GoodIn gTB (va_wsO own idx Cn owner x y (.code y cc' nL' ret' :: gTB)) := by
    refine gTB_in fun w hw => ?_
    simp only [va_wsO, List.cons_append, List.nil_append, List.mem_cons] at hw
    rcases hw with rfl | rfl | rfl | rfl | rfl | rfl | rfl | h <;> assumption
  exact va_runU ⟨C.1, C.2.1, C.2.2.1, C.2.2.2.1, C.2.2.2.2.1⟩ hM (va_cwO (C := Cn) (owner := owner) (x := x) n C.2.2.2.2.1 hg rfl rfl rfl k7 ⟨k8, k9, by rw [← k10]; exact c4⟩ (gRoom C c5 hdd)) ⟨gBlind C.2.2.2.2.2.2.2.2.2.2.1, va_recv C.2.2.2.2.2.2.2.1 hP hc (by rw [gPic_at hk, he]), fun U hU hWU => ⟨rfl, gPre_at C hP hS hz hU hWU⟩⟩ rfl hn (hl.1.trans hL) hst (lv_room hW) hd (gRoom0 C)
theorem G_calli {P : Int32 → gS → Prop} {av : Array Value} (pc' : Nat) (hr : gRun S E pc L st0 rest σ (gQi S P (e_D E) (e_cA E) (e_ad E) av)) (hp : pc + 3 = pc') (kk : ∀ (r : Int32) (σ' : gS), P r σ' → GW S E Q pc' L (.int r :: rest) σ') : GW S E Q pc L st0 σ := by
  subst hp
  exact fun H locs ls hP hS hl hz => va_calli (hr H locs ls hP hS hl hz) hS (fun _ _ h => h) (fun _ h => h) (fun r u t H1 locs1 ht hvm hpost hB hsz hk hS1 => kk r u hpost H1 locs1 ls (by rw [← ht]; exact hB.1) hS1 hl hB.2.2)
theorem G_calll {P : Int64 → gS → Prop} {av : Array Value} (pc' : Nat) (hr : gRun S E pc L st0 rest σ (gQl S P (e_D E) (e_cA E) (e_ad E) av)) (hp : pc + 3 = pc') (kk : ∀ (r : Int64) (σ' : gS), P r σ' → GW S E Q pc' L (.long r :: rest) σ') : GW S E Q pc L st0 σ := by
  subst hp
  exact fun H locs ls hP hS hl hz => va_calll (hr H locs ls hP hS hl hz) hS (fun _ _ h => h) (fun _ h => h) (fun r u t H1 locs1 ht hvm hpost hB hsz hk hS1 => kk r u hpost H1 locs1 ls (by rw [← ht]; exact hB.1) hS1 hl hB.2.2)
theorem G_callv {P : gS → Prop} {av : Array Value} (pc' : Nat) (hr : gRun S E pc L st0 rest σ (gQv S P (e_D E) (e_cA E) (e_ad E) av)) (hp : pc + 3 = pc') (kk : ∀ (σ' : gS), P σ' → GW S E Q pc' L rest σ') : GW S E Q pc L st0 σ := by
  subst hp
  exact fun H locs ls hP hS hl hz => va_callv (hr H locs ls hP hS hl hz) hS (fun _ _ h => h) (fun _ h => h) (fun u t H1 locs1 ht hvm hpost hB hsz hk hS1 => kk u hpost H1 locs1 ls (by rw [← ht]; exact hB.1) hS1 hl hB.2.2)
theorem G_callr {P : Nat → gS → Prop} {av : Array Value} (pc' : Nat) (hr : gRun S E pc L st0 rest σ (gQr S P (e_D E) (e_cA E) (e_ad E) av)) (hp : pc + 3 = pc') (kk : ∀ (k : Nat) (σ' : gS), P k σ' → GW S E Q pc' L (.ref (e_ad E k) :: rest) σ') : GW S E Q pc L st0 σ := by
  subst hp
  exact fun H locs ls hP hS hl hz => va_callr (hr H locs ls hP hS hl hz) hS (fun _ _ h => h) (fun _ h => h) (fun u ra t H1 locs1 ht hvm hpost hB hsz hk hS1 => by
    obtain ⟨he, hB⟩ := hB
    subst he
    exact kk u.2 u.1 hpost H1 locs1 ls (by rw [← ht]; exact hB.1) hS1 hl hB.2.2)
end GC
section GSI
variable {p : Program} {l : Launch} {e : Env} {R : Room} {s : State} {m : MethodId} {args : Array Value} {below : List Frame} {meth : Method} {c : Code}
theorem g_subOf {s : State} {D C : String} {dD cC : ClassId} (h : (Cond.superclass D C).before args s = true) (hD : s.vm.findClass D = some dD) (hC : s.vm.findClass C = some cC) : s.vm.isSubclass dD cC = true := by
  obtain ⟨ps, dk, kp, hps, hdk, hkp, hsuper, -, -, hnid⟩ := Cond.superclass_spec hD h
  cases hps.symm.trans hC
  have h1 : dD < s.vm.classes.size := (Array.getElem?_eq_some_iff.mp hdk).1
  obtain ⟨f, hf⟩ : ∃ f, s.vm.classes.size = f + 1 := ⟨s.vm.classes.size - 1, (Nat.succ_pred_eq_of_pos (Nat.lt_of_le_of_lt (Nat.zero_le _) h1)).symm⟩
  unfold Vm.isSubclass
  rw [hf]
  simp [Vm.isSubclassAux, hdk, hsuper]
theorem g_callSI {T : State} {locs : List Loc} {cells slots : Nat} (X : Stand p l e R s m args below meth c T locs cells slots) (hexec : p.tables.exec = Jvm.exec) {own : String} {index : Nat} {x y : MethodName} {bytes : ByteArray} {maxL : Nat} {ret : Option FieldType}
    (hown : s.vm.findClass own = some m.cls) (hyx : y = ⟨y.cls, x.name, x.desc⟩) (hlink : (Cond.methodLink own index x).before args s = true) (hsame : (Cond.sameMethod x.cls y.cls x.name x.desc).before args s = true) (hsup : (Cond.superclass own x.cls).before args s = true) (hsup2 : (Cond.superclass x.cls y.cls).before args s = true)
    (hinst : (Cond.instanceMethod y).before args s = true) (hcode : (Cond.code y bytes maxL ret).before args s = true) (hno : x.name ≠ "<init>")
    {W : Nat} {Pre : Pt → Array Value → Prop} {Post : Pt → Array Value → Option Value → Pt → Prop} (hK : Back l R p e below s args y 3 W Pre Post)
    {b : Addr} {cellB : Cell} {kB : Class} (hcell : T.heap[b]? = some cellB) (hobj : cellB.vm.isStatics = false) (hkB : s.vm.classes[cellB.cls]? = some kB)
    {g : JFrame} (hg : g.method = m) (hsize : g.locals.size = c.maxLocals) {argsL rest : List Value} (hlen : ∀ sig, parseMethodDescriptor y.desc = some sig → argsL.length = sig.parameters.length)
    (hstack : g.stack = argsL.reverse ++ .ref b :: rest) (hW : 2 * g.monitorRoom + (rest.map fun v => v.category).sum ≤ W) (hdg : decode c.code g.pc = .ok (.invokespecial index, 3))
    (hpre : ∀ vm₁, s.WarmedH vm₁ → Pre ⟨T.setVm vm₁, locs, cells, slots⟩ (Value.ref b :: argsL).toArray) :
    ∃ (v : Option Value) (vm₁ : Vm) (B : Pt), s.WarmedH vm₁ ∧ Stand p l e R s m args below meth c B.U B.locs B.cells B.slots ∧ Post ⟨T.setVm vm₁, locs, cells, slots⟩ (Value.ref b :: argsL).toArray v B ∧
      ∀ target, Steps p.tables e below (B.U.setTop { g with pc := g.pc + 3, stack := v.toList ++ rest }) target → Steps p.tables e below (T.setTop g) target := by
  obtain ⟨mk, methM, hnamed, hmethM, hstM, habM⟩ := Cond.instanceMethod_spec hinst
  obtain ⟨methM', cM, hmethM', -, -, -, -, -, -, hsigM⟩ := Cond.code_spec hnamed hcode
  cases hmethM.symm.trans hmethM'
  obtain ⟨ps, dk, kp, hps, hdk, hkp, hsuper, -, -, hnid⟩ := Cond.superclass_spec hown hsup
  have hn : s.methodNamed? ⟨y.cls, x.name, x.desc⟩ = some mk := by rw [← hyx]; exact hnamed
  have hsub : s.vm.isSubclass ps mk.cls = true := g_subOf hsup2 hps (findClass_of_methodNamed hnamed)
  obtain ⟨vm₁, X₁, hstep₁⟩ := X.invokespecialUp hexec hown hlink hsame hn hmethM hstM habM hno hdk hnid hps hsuper hsub (a := b) (cell := cellB) hcell
    (fun z h => by rw [h] at hobj; cases hobj) hkB (g := g) hg (argsL := argsL) (rest := rest) (hlen _ hsigM) hstack hdg
  obtain ⟨v, B, X', hpost, hsteps⟩ := hK m meth c ⟨T.setVm vm₁, locs, cells, slots⟩ { g with stack := rest } (.invokespecial index) mk (Value.ref b :: argsL).toArray X₁ hg hsize hdg hW (X₁.named hnamed) (hpre vm₁ X₁.warmed)
  exact ⟨v, vm₁, B, X₁.warmed, X', hpost, fun target h => hstep₁ _ (by rw [doInvoke_state]; exact hsteps.trans h)⟩
end GSI
def gKI (own : String) (idx : Nat) (x y : MethodName) : Prop := Cond.methodLink own idx x ∈ gTB ∧ Cond.sameMethod x.cls y.cls x.name x.desc ∈ gTB ∧ Cond.superclass own x.cls ∈ gTB ∧ Cond.superclass x.cls y.cls ∈ gTB ∧ Cond.instanceMethod y ∈ gTB ∧ Cond.initialized y.cls ∈ gTB ∧ x.name ≠ "<init>" ∧ y = ⟨y.cls, x.name, x.desc⟩
theorem G_runI2 {S : gSd} {E : gE} {own : String} {cc : ByteArray} {nL : Nat} {ret : Option FieldType} {d : Nat} {pc : Nat} {L : List (Option Value)} {st0 rest : List Value} {σ : gS} {idx n d' nL' k ci N : Nat} {x y : MethodName} {Cn : String} {T : u_T} {cc' : ByteArray} {ret' : Option FieldType} {As : (Nat → Nat) → List Value} {As' : List Value} {fs : List Value} {Qc : gQc}
    (C : gCx S E own cc nL ret d) (Kc : gKc y cc' nL' ret' n) (K : gKI own idx x y) (hdd : d' < d) (hk : k < S.1) (he : S.2.2.1 (e_cA E) (e_ad E) σ k = .inr (ci, fs)) (hc : vwCl[ci]? = some (Cn, T, N)) (M : gMt S y cc' nL' ret' d' As σ Qc) (hA : As (e_ad E) = .ref (e_ad E k) :: As') (hn : As'.length = n) (hst : st0 = As'.reverse ++ .ref (e_ad E k) :: rest) (hW : (rest.map fun v => v.category).sum ≤ 8) (hL : L.length = nL) (hd : decode cc pc = .ok (.invokespecial idx, 3)) :
    gRun S E pc L st0 rest σ (Qc (e_D E) (e_cA E) (e_ad E) (As (e_ad E)).toArray) := by
  intro H locs ls hP hS hl hz
  obtain ⟨c1, c2, c3, c4, c5⟩ := Kc
  obtain ⟨k1, k2, k3, k4, k5, k6, k7, k8⟩ := K
  have hM := M (e_l E) (e_D E) (e_cA E) (e_ad E) (e_z E)
  rw [hA] at hM ⊢
  have hts := C.2.2.2.2.1
  have hg : GoodIn gTB (.code y cc' nL' ret' :: gTB) := by
    refine gTB_in fun w hw => ?_
    simp only [List.mem_cons] at hw
    rcases hw with rfl | h <;> assumption
  have hR := gRoom C c5 hdd
  have hK := back_of (l := e_l E) (R := e_R E) (p := e_p E) (e := e_e E) (below := e_b E) (s := e_s E) (sargs := e_a E) (len := 3) (W := 8) (bytes := cc') (maxL := nL') (ret := ret') hM (gBlind C.2.2.2.2.2.2.2.2.2.2.1) rfl rfl hR.1 hR.2 (pay_in hts hg) List.mem_cons_self (fun a' U hW => word_at hW (Or.inl (by first | rfl | simp [Cond.onTables, Cond.keeps, Cond.steady])) (hts _ k6))
  obtain ⟨cellB, hcB, hoB, hclB⟩ := va_recv C.2.2.2.2.2.2.2.1 hP hc (by rw [gPic_at hk, he])
  obtain ⟨hfc, kB, hkB, -⟩ := (C.2.2.2.2.2.2.2.1.1 ci _ hc).2
  have hkB : (e_s E).vm.classes[cellB.cls]? = some kB := by
    rw [← Option.some.inj (hfc.symm.trans hclB)]
    exact hkB
  intro T' hT X
  obtain ⟨v, vm₁, ⟨U', l2, c2', s2⟩, hW₁, X', ⟨g', mk, t, Lc, e1, e2, hq, h1, hLc, h2, h3⟩, st⟩ := g_callSI X C.1 (bytes := cc') (maxL := nL') (ret := ret') C.2.2.2.1 k8 (hts _ k1) (hts _ k2) (hts _ k3) (hts _ k4) (hts _ k5) (hts _ c1) k7 hK (by rw [hT]; exact hcB) hoB hkB (g := F0 (e_m E) pc ls st0) rfl ((hl.1.trans hL).trans C.2.2.1.symm) (argsL := As') (rest := rest) (fun sig h => by
      rw [h] at c4
      rw [hn]
      exact (Option.some.inj c4).symm) hst (lv_room hW) (by rw [C.2.1]; exact hd)
    (fun vm₁ hW₁ => ⟨(gRoom0 C).1, (gRoom0 C).2, rfl, gPre_at C hP hS hz (show (T'.setVm vm₁).heap = H from hT) hW₁⟩)
  dsimp only [Pt.U, Pt.locs, Pt.cells, Pt.slots] at X' e1 e2 h1 h2 h3 st
  subst h1; subst h2; subst h3
  exact ⟨v, (T'.setVm vm₁).calling g' mk (Value.ref (e_ad E k) :: As').toArray, t, U', Lc, hT, X', hLc, e1, e2, hq, st⟩
