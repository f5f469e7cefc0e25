def SLlen : Nat → Nat := fun k => if k < 72 then SClen k else SMn (k - 72)
def SLent : gEnt := fun cA ad σ k => if k < 72 then SCent cA ad σ k else SMent cA (fun j => ad (72 + j)) (fun a => σ (72 + a)) (k - 72)
def SL : gSd := (92, SLlen, SLent, SCJ)
theorem SL_ok : gOk SL := by
  refine ⟨SC_ok.1, SC_ok.2.1, SC_ok.2.2.1, fun cA ad σ σ' k h => ?_⟩
  show SLent cA ad σ k = SLent cA ad σ' k
  unfold SLent
  by_cases hk : k < 72
  · rw [if_pos hk, if_pos hk]
    exact SC_ok.2.2.2 cA ad σ σ' k h
  · rw [if_neg hk, if_neg hk]
    refine SM_ok.2.2.2 cA (fun j => ad (72 + j)) (fun a => σ (72 + a)) (fun a => σ' (72 + a)) (k - 72) ?_
    show σ (72 + (k - 72)) = σ' (72 + (k - 72))
    rw [show 72 + (k - 72) = k by omega]
    exact h
def gcat (σ τ : gS) : gS := fun k => if k < 72 then σ k else τ (k - 72)
theorem L_entC {cA : Nat → ClassId} {ad : Nat → Nat} {σ τ : gS} {k : Nat} (h : k < 72) : SL.2.2.1 cA ad (gcat σ τ) k = SC.2.2.1 cA ad σ k := by
  show (if k < 72 then SCent cA ad (gcat σ τ) k else _) = _
  rw [if_pos h]
  exact SC_ok.2.2.2 cA ad _ _ k (if_pos h)
theorem L_entM {cA : Nat → ClassId} {ad : Nat → Nat} {σ τ : gS} {j : Nat} : SL.2.2.1 cA ad (gcat σ τ) (72 + j) = SM.2.2.1 cA (fun j => ad (72 + j)) τ j := by
  show (if 72 + j < 72 then SCent cA ad (gcat σ τ) (72 + j) else SMent cA (fun j => ad (72 + j)) (fun a => gcat σ τ (72 + a)) (72 + j - 72)) = _
  rw [if_neg (by omega), show 72 + j - 72 = j by omega]
  refine SM_ok.2.2.2 cA (fun j => ad (72 + j)) (fun a => gcat σ τ (72 + a)) τ j ?_
  show (if 72 + j < 72 then σ (72 + j) else τ (72 + j - 72)) = τ j
  rw [if_neg (by omega), show 72 + j - 72 = j by omega]
theorem gz_cat {σ τ : gS} (h1 : gz SC σ) (h2 : gz SM τ) : gz SL (gcat σ τ) := by
  intro k j h
  have h3 : (if k < 72 then SClen k else SMn (k - 72)) ≤ j := h
  show (if k < 72 then σ k else τ (k - 72)) j = 0
  by_cases hk : k < 72
  · rw [if_pos hk] at h3 ⊢
    exact h1 k j h3
  · rw [if_neg hk] at h3 ⊢
    exact h2 (k - 72) j h3
theorem SCJ_narrow {z : Nat → Nat} {A B : Nat → Prop} {U : State} {H : Heap} (h : SCJ z A U H) (hAB : ∀ q, B q → A q) : SCJ z B U H := by
  obtain ⟨h1, h2, h3, h4, h5, h6, h9⟩ := h
  exact ⟨h1.narrow hAB, h2.narrow hAB, h3.narrow hAB, h4.narrow hAB, h5.narrow hAB, h6, h9⟩
section GL
variable {E : gE} {own : String} {cc : ByteArray} {nL : Nat} {ret : Option FieldType} {d : Nat} {Q : State → Prop} {pc : Nat} {L : List (Option Value)} {st0 st rest : List Value} {σ τ : gS}
variable {idx n d' nL' : Nat} {y : MethodName} {cc' : ByteArray} {ret' : Option FieldType} {As : (Nat → Nat) → List Value} {As' : List Value} {Qc : gQc}
theorem L_subC (ad : Nat → Nat) : ∀ q, gA SC ad q → gA SL ad q := by
  rintro q ⟨k, hk, rfl⟩
  have h2 : k < 72 := hk
  exact ⟨k, show k < 92 by omega, rfl⟩
theorem L_subM (ad : Nat → Nat) : ∀ q, gA SM (fun j => ad (72 + j)) q → gA SL ad q := by
  rintro q ⟨k, hk, rfl⟩
  have h2 : k < 20 := hk
  exact ⟨72 + k, show 72 + k < 92 by omega, rfl⟩
theorem L_injC {ad : Nat → Nat} (h : gInj SL ad) : gInj SC ad := fun i j hi hj e => by
  have h1 : i < 72 := hi
  have h2 : j < 72 := hj
  exact h i j (show i < 92 by omega) (show j < 92 by omega) e
theorem L_injM {ad : Nat → Nat} (h : gInj SL ad) : gInj SM (fun j => ad (72 + j)) := fun i j hi hj e => by
  have h1 : i < 20 := hi
  have h2 : j < 20 := hj
  have := h (72 + i) (72 + j) (show 72 + i < 92 by omega) (show 72 + j < 92 by omega) e
  omega
theorem L_PC {D : va_G} {cA : Nat → ClassId} {ad : Nat → Nat} {H : Heap} (hP : va_P D vwCl (gPic SL cA ad (gcat σ τ)) H) : va_P D vwCl (gPic SC cA ad σ) H := by
  intro k q hq
  obtain ⟨hk, rfl⟩ := gPic_inv hq
  have h2 : k < 72 := hk
  have h3 := hP k _ (gPic_at (S := SL) (show k < 92 by omega))
  rw [L_entC h2] at h3
  exact h3
theorem L_PM {D : va_G} {cA : Nat → ClassId} {ad : Nat → Nat} {H : Heap} (hP : va_P D vwCl (gPic SL cA ad (gcat σ τ)) H) : va_P D vwCl (gPic SM cA (fun j => ad (72 + j)) τ) H := by
  intro k q hq
  obtain ⟨hk, rfl⟩ := gPic_inv hq
  have h2 : k < 20 := hk
  have h3 := hP (72 + k) _ (gPic_at (S := SL) (show 72 + k < 92 by omega))
  rw [L_entM] at h3
  exact h3
theorem L_P2 {D : va_G} {cA : Nat → ClassId} {ad : Nat → Nat} {H : Heap} (h1 : va_P D vwCl (gPic SC cA ad σ) H) (h2 : va_P D vwCl (gPic SM cA (fun j => ad (72 + j)) τ) H) : va_P D vwCl (gPic SL cA ad (gcat σ τ)) H := by
  intro k q hq
  obtain ⟨hk, rfl⟩ := gPic_inv hq
  have hk2 : k < 92 := hk
  by_cases h : k < 72
  · have h3 := h1 k _ (gPic_at (S := SC) h)
    rw [← L_entC (τ := τ) h] at h3
    exact h3
  · obtain ⟨j, rfl⟩ : ∃ j, k = 72 + j := ⟨k - 72, by omega⟩
    have h3 := h2 j _ (gPic_at (S := SM) (show j < 20 by omega))
    rw [← L_entM (σ := σ)] at h3
    exact h3
theorem L_runC (C : gCx SL E own cc nL ret d) (Kc : gKc y cc' nL' ret' n) (K : gKV own idx y) (hdd : d' < d) (hy : y.cls = RX10) (M : gMt SC y cc' nL' ret' d' As σ Qc) (hA : As (e_ad E) = .ref (e_ad E 0) :: As') (hn : As'.length = n) (hst : st0 = As'.reverse ++ .ref (e_ad E 0) :: rest) (hW : (rest.map fun v => v.category).sum ≤ 8) (hL : L.length = nL) (hd : decode cc pc = .ok (.invokevirtual idx, 3)) (hz : gz SC σ) {H : Heap} {locs : List Loc} {ls : Array Slot} (hP : va_P (e_D E) vwCl (gPic SL (e_cA E) (e_ad E) (gcat σ τ)) H) (hS : va_S (gA SL (e_ad E)) (e_s E).heap H locs) (hl : lvx ls L) :
    va_Run (e_p E) (e_l E) (e_e E) (e_R E) (e_s E) (e_m E) (e_a E) (e_b E) (e_M E) (e_c E) H locs (e_ck E) (e_cs E) 0 0 (F0 (e_m E) pc ls st0) rest (Qc (e_D E) (e_cA E) (e_ad E) (As (e_ad E)).toArray) (gA SC (e_ad E)) := by
  have hPC := L_PC hP
  have hI := C.2.2.2.2.2.2.2.2.1
  have hJ := C.2.2.2.2.2.2.2.2.2.1
  have hM := M (e_l E) (e_D E) (e_cA E) (e_ad E) (e_z E)
  obtain ⟨c1, c2, c3, c4, c5⟩ := Kc
  obtain ⟨k1, k2, k3, k4⟩ := K
  rw [hA] at hM ⊢
  have hg : GoodIn gTB (wsV own idx y.cls y (.code y cc' nL' ret' :: gTB)) := by
    refine gTB_in fun w hw => ?_
    simp only [wsV, List.cons_append, List.nil_append, List.mem_cons] at hw
    rcases hw with rfl | rfl | rfl | rfl | rfl | h <;> assumption
  have hpre : ∀ U : State, U.heap = H → State.WarmedH (e_s E) U.vm → gPre SC (e_D E) (e_cA E) (e_ad E) (e_z E) σ U := fun U hU hW => ⟨by rw [hU]; exact hPC, va_K.moved hW.alike C.2.2.2.2.2.2.2.1, hz, L_injC hI, by
    rw [hU]
    exact SCJ_narrow (SL_ok.2.2.1 _ _ _ _ _ (SL_ok.1 _ _ _ _ _ hW hJ) hS.2.1) (L_subC _)⟩
  exact va_runV ⟨C.1, C.2.1, C.2.2.1, C.2.2.2.1, C.2.2.2.2.1⟩ hM (cwV n C.2.2.2.2.1 hg rfl rfl rfl ⟨rfl, c2, c3, c4⟩ (gRoom C c5 hdd)) ⟨gBlind SC_ok, va_recv (ci := 10) (q := (RX10, TX10, 9)) (q0 := 0) (fs := fC (e_ad E) σ) C.2.2.2.2.2.2.2.1 hPC rfl (gPic_at (S := SC) (show 0 < 72 by decide)) |> fun h => by rw [hy]; exact h, fun U hU hWU => ⟨rfl, hpre U hU hWU⟩⟩ rfl hn (hl.1.trans hL) hst (lv_room hW) hd (gRoom0 C)
theorem L_runM (C : gCx SL E own cc nL ret d) (Kc : gKc y cc' nL' ret' n) (K : gKV own idx y) (hdd : d' < d) (hy : y.cls = RX11) (M : gMt SM y cc' nL' ret' d' As τ Qc) (hA : As (fun j => e_ad E (72 + j)) = .ref (e_ad E 72) :: As') (hn : As'.length = n) (hst : st0 = As'.reverse ++ .ref (e_ad E 72) :: rest) (hW : (rest.map fun v => v.category).sum ≤ 8) (hL : L.length = nL) (hd : decode cc pc = .ok (.invokevirtual idx, 3)) (hz : gz SM τ) {H : Heap} {locs : List Loc} {ls : Array Slot} (hP : va_P (e_D E) vwCl (gPic SL (e_cA E) (e_ad E) (gcat σ τ)) H) (hS : va_S (gA SL (e_ad E)) (e_s E).heap H locs) (hl : lvx ls L) :
    va_Run (e_p E) (e_l E) (e_e E) (e_R E) (e_s E) (e_m E) (e_a E) (e_b E) (e_M E) (e_c E) H locs (e_ck E) (e_cs E) 0 0 (F0 (e_m E) pc ls st0) rest (Qc (e_D E) (e_cA E) (fun j => e_ad E (72 + j)) (As (fun j => e_ad E (72 + j))).toArray) (gA SM (fun j => e_ad E (72 + j))) := by
  have hPM := L_PM hP
  have hI := C.2.2.2.2.2.2.2.2.1
  have hM := M (e_l E) (e_D E) (e_cA E) (fun j => e_ad E (72 + j)) (e_z E)
  obtain ⟨c1, c2, c3, c4, c5⟩ := Kc
  obtain ⟨k1, k2, k3, k4⟩ := K
  rw [hA] at hM ⊢
  have hg : GoodIn gTB (wsV own idx y.cls y (.code y cc' nL' ret' :: gTB)) := by
    refine gTB_in fun w hw => ?_
    simp only [wsV, List.cons_append, List.nil_append, List.mem_cons] at hw
    rcases hw with rfl | rfl | rfl | rfl | rfl | h <;> assumption
  have hpre : ∀ U : State, U.heap = H → State.WarmedH (e_s E) U.vm → gPre SM (e_D E) (e_cA E) (fun j => e_ad E (72 + j)) (e_z E) τ U := fun U hU hW => ⟨by rw [hU]; exact hPM, va_K.moved hW.alike C.2.2.2.2.2.2.2.1, hz, L_injM hI, trivial⟩
  exact va_runV ⟨C.1, C.2.1, C.2.2.1, C.2.2.2.1, C.2.2.2.2.1⟩ hM (cwV n C.2.2.2.2.1 hg rfl rfl rfl ⟨rfl, c2, c3, c4⟩ (gRoom C c5 hdd)) ⟨gBlind SM_ok, va_recv (ci := 11) (q := (RX11, TX11, 32)) (q0 := 0) (fs := fM (fun j => e_ad E (72 + j)) τ) C.2.2.2.2.2.2.2.1 hPM rfl (gPic_at (S := SM) (show 0 < 20 by decide)) |> fun h => by rw [hy]; exact h, fun U hU hWU => ⟨rfl, hpre U hU hWU⟩⟩ rfl hn (hl.1.trans hL) hst (lv_room hW) hd (gRoom0 C)
theorem L_keepM {D : va_G} {cA : Nat → ClassId} {ad : Nat → Nat} {H H1 : Heap} (hI : gInj SL ad) (hP : va_P D vwCl (gPic SL cA ad (gcat σ τ)) H) (hk : ∀ q : Nat, q < H.size → ¬ gA SC ad q → H1[q]? = H[q]?) : va_P D vwCl (gPic SM cA (fun j => ad (72 + j)) τ) H1 := by
  have h := L_PM hP
  refine h.kept (fun k q hq => ?_)
  obtain ⟨hk2, rfl⟩ := gPic_inv hq
  refine hk _ (h k _ hq).lt (fun z => ?_)
  obtain ⟨i, hi, he⟩ := z
  have h1 : i < 72 := hi
  have h2 : k < 20 := hk2
  have := hI (72 + k) i (show 72 + k < 92 by omega) (show i < 92 by omega) he
  omega
theorem L_keepC {D : va_G} {cA : Nat → ClassId} {ad : Nat → Nat} {H H1 : Heap} (hI : gInj SL ad) (hP : va_P D vwCl (gPic SL cA ad (gcat σ τ)) H) (hk : ∀ q : Nat, q < H.size → ¬ gA SM (fun j => ad (72 + j)) q → H1[q]? = H[q]?) : va_P D vwCl (gPic SC cA ad σ) H1 := by
  have h := L_PC hP
  refine h.kept (fun k q hq => ?_)
  obtain ⟨hk2, rfl⟩ := gPic_inv hq
  refine hk _ (h k _ hq).lt (fun z => ?_)
  obtain ⟨i, hi, he⟩ := z
  have h1 : i < 20 := hi
  have h2 : k < 72 := hk2
  have := hI k (72 + i) (show k < 92 by omega) (show 72 + i < 92 by omega) he
  omega
theorem L_Ci (C : gCx SL E own cc nL ret d) (pc' : Nat) {P : Int32 → gS → Prop} (Kc : gKc y cc' nL' (some .int) n) (K : gKV own idx y) (hdd : d' < d) (hy : y.cls = RX10) (M : gMt SC y cc' nL' (some .int) d' As σ (gQi SC P)) (hA : As (e_ad E) = .ref (e_ad E 0) :: As') (hn : As'.length = n) (hst : st0 = As'.reverse ++ .ref (e_ad E 0) :: rest) (hW : (rest.map fun v => v.category).sum ≤ 8) (hL : L.length = nL) (hd : decode cc pc = .ok (.invokevirtual idx, 3)) (hp : pc + 3 = pc') (hz : gz SC σ) (hzM : gz SM τ) (kk : ∀ (r : Int32) (σ' : gS), P r σ' → gz SC σ' → GW SL E Q pc' L (.int r :: rest) (gcat σ' τ)) : GW SL E Q pc L st0 (gcat σ τ) := by
  subst hp
  exact fun H locs ls hP hS hl hgz => va_calli (L_runC C Kc K hdd hy M hA hn hst hW hL hd hz hP hS hl) hS (fun q _ h => L_subC _ q h) (L_subC _) (fun r u t H1 locs1 ht hvm hpost hB hsz hk hS1 => kk r u hpost hB.2.2 H1 locs1 ls (L_P2 (by rw [← ht]; exact hB.1) (L_keepM C.2.2.2.2.2.2.2.2.1 hP hk)) hS1 hl (gz_cat hB.2.2 hzM))
theorem L_Cl (C : gCx SL E own cc nL ret d) (pc' : Nat) {P : Int64 → gS → Prop} (Kc : gKc y cc' nL' (some .long) n) (K : gKV own idx y) (hdd : d' < d) (hy : y.cls = RX10) (M : gMt SC y cc' nL' (some .long) d' As σ (gQl SC P)) (hA : As (e_ad E) = .ref (e_ad E 0) :: As') (hn : As'.length = n) (hst : st0 = As'.reverse ++ .ref (e_ad E 0) :: rest) (hW : (rest.map fun v => v.category).sum ≤ 8) (hL : L.length = nL) (hd : decode cc pc = .ok (.invokevirtual idx, 3)) (hp : pc + 3 = pc') (hz : gz SC σ) (hzM : gz SM τ) (kk : ∀ (r : Int64) (σ' : gS), P r σ' → gz SC σ' → GW SL E Q pc' L (.long r :: rest) (gcat σ' τ)) : GW SL E Q pc L st0 (gcat σ τ) := by
  subst hp
  exact fun H locs ls hP hS hl hgz => va_calll (L_runC C Kc K hdd hy M hA hn hst hW hL hd hz hP hS hl) hS (fun q _ h => L_subC _ q h) (L_subC _) (fun r u t H1 locs1 ht hvm hpost hB hsz hk hS1 => kk r u hpost hB.2.2 H1 locs1 ls (L_P2 (by rw [← ht]; exact hB.1) (L_keepM C.2.2.2.2.2.2.2.2.1 hP hk)) hS1 hl (gz_cat hB.2.2 hzM))
theorem L_Mi (C : gCx SL E own cc nL ret d) (pc' : Nat) {P : Int32 → gS → Prop} (Kc : gKc y cc' nL' (some .int) n) (K : gKV own idx y) (hdd : d' < d) (hy : y.cls = RX11) (M : gMt SM y cc' nL' (some .int) d' As τ (gQi SM P)) (hA : As (fun j => e_ad E (72 + j)) = .ref (e_ad E 72) :: As') (hn : As'.length = n) (hst : st0 = As'.reverse ++ .ref (e_ad E 72) :: rest) (hW : (rest.map fun v => v.category).sum ≤ 8) (hL : L.length = nL) (hd : decode cc pc = .ok (.invokevirtual idx, 3)) (hp : pc + 3 = pc') (hz : gz SC σ) (hzM : gz SM τ) (kk : ∀ (r : Int32) (τ' : gS), P r τ' → gz SM τ' → GW SL E Q pc' L (.int r :: rest) (gcat σ τ')) : GW SL E Q pc L st0 (gcat σ τ) := by
  subst hp
  exact fun H locs ls hP hS hl hgz => va_calli (L_runM C Kc K hdd hy M hA hn hst hW hL hd hzM hP hS hl) hS (fun q _ h => L_subM _ q h) (L_subM _) (fun r u t H1 locs1 ht hvm hpost hB hsz hk hS1 => kk r u hpost hB.2.2 H1 locs1 ls (L_P2 (L_keepC C.2.2.2.2.2.2.2.2.1 hP hk) (by rw [← ht]; exact hB.1)) hS1 hl (gz_cat hz hB.2.2))
theorem L_Ml (C : gCx SL E own cc nL ret d) (pc' : Nat) {P : Int64 → gS → Prop} (Kc : gKc y cc' nL' (some .long) n) (K : gKV own idx y) (hdd : d' < d) (hy : y.cls = RX11) (M : gMt SM y cc' nL' (some .long) d' As τ (gQl SM P)) (hA : As (fun j => e_ad E (72 + j)) = .ref (e_ad E 72) :: As') (hn : As'.length = n) (hst : st0 = As'.reverse ++ .ref (e_ad E 72) :: rest) (hW : (rest.map fun v => v.category).sum ≤ 8) (hL : L.length = nL) (hd : decode cc pc = .ok (.invokevirtual idx, 3)) (hp : pc + 3 = pc') (hz : gz SC σ) (hzM : gz SM τ) (kk : ∀ (r : Int64) (τ' : gS), P r τ' → gz SM τ' → GW SL E Q pc' L (.long r :: rest) (gcat σ τ')) : GW SL E Q pc L st0 (gcat σ τ) := by
  subst hp
  exact fun H locs ls hP hS hl hgz => va_calll (L_runM C Kc K hdd hy M hA hn hst hW hL hd hzM hP hS hl) hS (fun q _ h => L_subM _ q h) (L_subM _) (fun r u t H1 locs1 ht hvm hpost hB hsz hk hS1 => kk r u hpost hB.2.2 H1 locs1 ls (L_P2 (L_keepC C.2.2.2.2.2.2.2.2.1 hP hk) (by rw [← ht]; exact hB.1)) hS1 hl (gz_cat hz hB.2.2))
theorem L_sld (C : gCx SL E own cc nL ret d) (pc' : Nat) {b Ln i' : Nat} {xs : Nat → Int32} {i : Int32} (hX : va_X b Ln xs (e_s E) (e_s E).heap) (hbl : b < (e_s E).heap.size) (hbA : ¬ gA SL (e_ad E) b) (hi : i = nI i') (hlt : i' < Ln) (hLn : Ln ≤ 3584) (hd : decode cc pc = .ok (.iaload, 1)) (hp : pc + 1 = pc') (kk : GW SL E Q pc' L (.int (xs i') :: st) σ) : GW SL E Q pc L (.int i :: .ref b :: st) σ := by
  subst hp hi
  intro H locs ls hP hS hl hz
  refine va_sld C.1 C.2.1 hX hbl hbA hS (vp_in_nI hlt (by omega)) hd ?_
  rw [nI_clamp (by omega)]
  exact kk H locs ls hP hS hl hz
theorem L_slen (C : gCx SL E own cc nL ret d) (pc' : Nat) {b Ln : Nat} {xs : Nat → Int32} (hX : va_X b Ln xs (e_s E) (e_s E).heap) (hbl : b < (e_s E).heap.size) (hbA : ¬ gA SL (e_ad E) b) (hd : decode cc pc = .ok (.arraylength, 1)) (hp : pc + 1 = pc') (kk : GW SL E Q pc' L (.int (nI Ln) :: st) σ) : GW SL E Q pc L (.ref b :: st) σ := by
  subst hp
  exact fun H locs ls hP hS hl hz => va_slen C.1 C.2.1 hX hbl hbA hS hd (kk H locs ls hP hS hl hz)
end GL
theorem L_cmp {x y : Int64} (h : x = y) : lg_cmp x y = 0 := by
  subst h
  unfold lg_cmp
  simp
theorem L_lt {l i : Nat} (hL : l ≤ 3584) (hi : i ≤ 3584) (h : ¬ nI l - 7 < nI i) : i + 7 ≤ l := by
  have q1 := nI_toInt (n := l) (by omega)
  have q2 := nI_toInt (n := i) (by omega)
  have q3 : (nI l - 7).toInt = (l : Int) - 7 := by
    have q7 : (7 : Int32).toInt = 7 := by decide
    rw [Int32.toInt_sub, q1, q7]
    exact Int.bmod_eq_of_le_mul_two (by omega) (by omega)
  rw [Int32.lt_iff_toInt_lt, q3, q2] at h
  omega
