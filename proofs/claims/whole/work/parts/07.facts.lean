set_option maxRecDepth 20000 in
theorem inX4 : ∀ w ∈ u_ws RX4 TX4 3, w ∈ gTB := List.forall_mem_cons.mpr ⟨w_95, List.forall_mem_cons.mpr ⟨w_97, List.forall_mem_cons.mpr ⟨w_99, fun _ h => absurd h List.not_mem_nil⟩⟩⟩
set_option maxRecDepth 20000 in
theorem inX6 : ∀ w ∈ u_ws RX6 TX6 7, w ∈ gTB := List.forall_mem_cons.mpr ⟨w_48, List.forall_mem_cons.mpr ⟨w_50, List.forall_mem_cons.mpr ⟨w_52, List.forall_mem_cons.mpr ⟨w_54, List.forall_mem_cons.mpr ⟨w_56, List.forall_mem_cons.mpr ⟨w_58, List.forall_mem_cons.mpr ⟨w_60, fun _ h => absurd h List.not_mem_nil⟩⟩⟩⟩⟩⟩⟩
set_option maxRecDepth 20000 in
theorem inX7 : ∀ w ∈ u_ws RX7 TX7 4, w ∈ gTB := List.forall_mem_cons.mpr ⟨w_75, List.forall_mem_cons.mpr ⟨w_77, List.forall_mem_cons.mpr ⟨w_79, List.forall_mem_cons.mpr ⟨w_81, fun _ h => absurd h List.not_mem_nil⟩⟩⟩⟩
set_option maxRecDepth 20000 in
theorem inX9 : ∀ w ∈ u_ws RX9 TX9 15, w ∈ gTB := List.forall_mem_cons.mpr ⟨w_178, List.forall_mem_cons.mpr ⟨w_180, List.forall_mem_cons.mpr ⟨w_182, List.forall_mem_cons.mpr ⟨w_184, List.forall_mem_cons.mpr ⟨w_186, List.forall_mem_cons.mpr ⟨w_188, List.forall_mem_cons.mpr ⟨w_190, List.forall_mem_cons.mpr ⟨w_192, List.forall_mem_cons.mpr ⟨w_194, List.forall_mem_cons.mpr ⟨w_196, List.forall_mem_cons.mpr ⟨w_198, List.forall_mem_cons.mpr ⟨w_200, List.forall_mem_cons.mpr ⟨w_202, List.forall_mem_cons.mpr ⟨w_204, List.forall_mem_cons.mpr ⟨w_206, fun _ h => absurd h List.not_mem_nil⟩⟩⟩⟩⟩⟩⟩⟩⟩⟩⟩⟩⟩⟩⟩
set_option maxRecDepth 20000 in
theorem inX10 : ∀ w ∈ u_ws RX10 TX10 9, w ∈ gTB := List.forall_mem_cons.mpr ⟨w_397, List.forall_mem_cons.mpr ⟨w_399, List.forall_mem_cons.mpr ⟨w_401, List.forall_mem_cons.mpr ⟨w_403, List.forall_mem_cons.mpr ⟨w_405, List.forall_mem_cons.mpr ⟨w_407, List.forall_mem_cons.mpr ⟨w_409, List.forall_mem_cons.mpr ⟨w_411, List.forall_mem_cons.mpr ⟨w_413, fun _ h => absurd h List.not_mem_nil⟩⟩⟩⟩⟩⟩⟩⟩⟩
set_option maxRecDepth 20000 in
theorem inX11 : ∀ w ∈ u_ws RX11 TX11 32, w ∈ gTB := List.forall_mem_cons.mpr ⟨w_905, List.forall_mem_cons.mpr ⟨w_907, List.forall_mem_cons.mpr ⟨w_909, List.forall_mem_cons.mpr ⟨w_911, List.forall_mem_cons.mpr ⟨w_913, List.forall_mem_cons.mpr ⟨w_915, List.forall_mem_cons.mpr ⟨w_917, List.forall_mem_cons.mpr ⟨w_919, List.forall_mem_cons.mpr ⟨w_921, List.forall_mem_cons.mpr ⟨w_923, List.forall_mem_cons.mpr ⟨w_925, List.forall_mem_cons.mpr ⟨w_927, List.forall_mem_cons.mpr ⟨w_929, List.forall_mem_cons.mpr ⟨w_931, List.forall_mem_cons.mpr ⟨w_933, List.forall_mem_cons.mpr ⟨w_935, List.forall_mem_cons.mpr ⟨w_937, List.forall_mem_cons.mpr ⟨w_939, List.forall_mem_cons.mpr ⟨w_941, List.forall_mem_cons.mpr ⟨w_943, List.forall_mem_cons.mpr ⟨w_945, List.forall_mem_cons.mpr ⟨w_947, List.forall_mem_cons.mpr ⟨w_949, List.forall_mem_cons.mpr ⟨w_951, List.forall_mem_cons.mpr ⟨w_953, List.forall_mem_cons.mpr ⟨w_955, List.forall_mem_cons.mpr ⟨w_957, List.forall_mem_cons.mpr ⟨w_959, List.forall_mem_cons.mpr ⟨w_961, List.forall_mem_cons.mpr ⟨w_963, List.forall_mem_cons.mpr ⟨w_965, List.forall_mem_cons.mpr ⟨w_967, fun _ h => absurd h List.not_mem_nil⟩⟩⟩⟩⟩⟩⟩⟩⟩⟩⟩⟩⟩⟩⟩⟩⟩⟩⟩⟩⟩⟩⟩⟩⟩⟩⟩⟩⟩⟩⟩⟩
theorem FP_4_1 : gFp TX4 tyX4 3 1 .int := ⟨tyX4_ok, nmX4, rfl, by decide +kernel⟩
theorem FP_4_2 : gFp TX4 tyX4 3 2 .int := ⟨tyX4_ok, nmX4, rfl, by decide +kernel⟩
theorem FP_6_1 : gFp TX6 tyX6 7 1 .int := ⟨tyX6_ok, nmX6, rfl, by decide +kernel⟩
theorem FP_6_2 : gFp TX6 tyX6 7 2 .int := ⟨tyX6_ok, nmX6, rfl, by decide +kernel⟩
theorem FP_6_3 : gFp TX6 tyX6 7 3 .int := ⟨tyX6_ok, nmX6, rfl, by decide +kernel⟩
theorem FP_6_4 : gFp TX6 tyX6 7 4 .int := ⟨tyX6_ok, nmX6, rfl, by decide +kernel⟩
theorem FP_6_5 : gFp TX6 tyX6 7 5 .int := ⟨tyX6_ok, nmX6, rfl, by decide +kernel⟩
theorem FP_6_6 : gFp TX6 tyX6 7 6 (.object RX7) := ⟨tyX6_ok, nmX6, rfl, by decide +kernel⟩
theorem FP_7_3 : gFp TX7 tyX7 4 3 .int := ⟨tyX7_ok, nmX7, rfl, by decide +kernel⟩
theorem FP_9_2 : gFp TX9 tyX9 15 2 .int := ⟨tyX9_ok, nmX9, rfl, by decide +kernel⟩
theorem FP_9_3 : gFp TX9 tyX9 15 3 .int := ⟨tyX9_ok, nmX9, rfl, by decide +kernel⟩
theorem FP_9_4 : gFp TX9 tyX9 15 4 .int := ⟨tyX9_ok, nmX9, rfl, by decide +kernel⟩
theorem FP_9_5 : gFp TX9 tyX9 15 5 .int := ⟨tyX9_ok, nmX9, rfl, by decide +kernel⟩
theorem FP_9_6 : gFp TX9 tyX9 15 6 .int := ⟨tyX9_ok, nmX9, rfl, by decide +kernel⟩
theorem FP_10_7 : gFp TX10 tyX10 9 7 .boolean := ⟨tyX10_ok, nmX10, rfl, by decide +kernel⟩
theorem FP_10_8 : gFp TX10 tyX10 9 8 .int := ⟨tyX10_ok, nmX10, rfl, by decide +kernel⟩
theorem FP_11_0 : gFp TX11 tyX11 32 0 .int := ⟨tyX11_ok, nmX11, rfl, by decide +kernel⟩
theorem FP_11_6 : gFp TX11 tyX11 32 6 .int := ⟨tyX11_ok, nmX11, rfl, by decide +kernel⟩
theorem FP_11_9 : gFp TX11 tyX11 32 9 .int := ⟨tyX11_ok, nmX11, rfl, by decide +kernel⟩
theorem FP_11_10 : gFp TX11 tyX11 32 10 .int := ⟨tyX11_ok, nmX11, rfl, by decide +kernel⟩
theorem FP_11_11 : gFp TX11 tyX11 32 11 .boolean := ⟨tyX11_ok, nmX11, rfl, by decide +kernel⟩
theorem FP_11_18 : gFp TX11 tyX11 32 18 .int := ⟨tyX11_ok, nmX11, rfl, by decide +kernel⟩
theorem FP_11_19 : gFp TX11 tyX11 32 19 .int := ⟨tyX11_ok, nmX11, rfl, by decide +kernel⟩
theorem FP_11_20 : gFp TX11 tyX11 32 20 .int := ⟨tyX11_ok, nmX11, rfl, by decide +kernel⟩
theorem FP_11_21 : gFp TX11 tyX11 32 21 .int := ⟨tyX11_ok, nmX11, rfl, by decide +kernel⟩
theorem FP_11_24 : gFp TX11 tyX11 32 24 .int := ⟨tyX11_ok, nmX11, rfl, by decide +kernel⟩
theorem FP_11_25 : gFp TX11 tyX11 32 25 .int := ⟨tyX11_ok, nmX11, rfl, by decide +kernel⟩
theorem FP_11_26 : gFp TX11 tyX11 32 26 .int := ⟨tyX11_ok, nmX11, rfl, by decide +kernel⟩
theorem FP_11_31 : gFp TX11 tyX11 32 31 .int := ⟨tyX11_ok, nmX11, rfl, by decide +kernel⟩
theorem FL_10_11 : gFl RX10 11 10 RX10 TX10 9 0 := ⟨rfl, by decide, inX10, w_388, rfl⟩
theorem X10_11g {E : gE} {cc : ByteArray} {nL : Nat} {ret : Option FieldType} {d : Nat} {Q : State → Prop} {pc : Nat} {L : List (Option Value)} {st : List Value} {σ : gS} (C : gCx SC E RX10 cc nL ret d) (pc' : Nat) (hd : decode cc pc = .ok (.getfield 11, 3)) (hp : pc + 3 = pc') (k : GW SC E Q pc' L (.ref (e_ad E 1) :: st) σ) : GW SC E Q pc L (.ref (e_ad E 0) :: st) σ := G_get (v := .ref (e_ad E 1)) C pc' FL_10_11 (by decide) (eC _ _ _) rfl hd hp k
theorem FL_10_17 : gFl RX10 17 10 RX10 TX10 9 1 := ⟨rfl, by decide, inX10, w_389, rfl⟩
theorem X10_17g {E : gE} {cc : ByteArray} {nL : Nat} {ret : Option FieldType} {d : Nat} {Q : State → Prop} {pc : Nat} {L : List (Option Value)} {st : List Value} {σ : gS} (C : gCx SC E RX10 cc nL ret d) (pc' : Nat) (hd : decode cc pc = .ok (.getfield 17, 3)) (hp : pc + 3 = pc') (k : GW SC E Q pc' L (.ref (e_ad E 2) :: st) σ) : GW SC E Q pc L (.ref (e_ad E 0) :: st) σ := G_get (v := .ref (e_ad E 2)) C pc' FL_10_17 (by decide) (eC _ _ _) rfl hd hp k
theorem FL_10_24 : gFl RX10 24 10 RX10 TX10 9 2 := ⟨rfl, by decide, inX10, w_390, rfl⟩
theorem X10_24g {E : gE} {cc : ByteArray} {nL : Nat} {ret : Option FieldType} {d : Nat} {Q : State → Prop} {pc : Nat} {L : List (Option Value)} {st : List Value} {σ : gS} (C : gCx SC E RX10 cc nL ret d) (pc' : Nat) (hd : decode cc pc = .ok (.getfield 24, 3)) (hp : pc + 3 = pc') (k : GW SC E Q pc' L (.ref (e_ad E 3) :: st) σ) : GW SC E Q pc L (.ref (e_ad E 0) :: st) σ := G_get (v := .ref (e_ad E 3)) C pc' FL_10_24 (by decide) (eC _ _ _) rfl hd hp k
theorem FL_10_28 : gFl RX10 28 10 RX10 TX10 9 6 := ⟨rfl, by decide, inX10, w_394, rfl⟩
theorem X10_28g {E : gE} {cc : ByteArray} {nL : Nat} {ret : Option FieldType} {d : Nat} {Q : State → Prop} {pc : Nat} {L : List (Option Value)} {st : List Value} {σ : gS} (C : gCx SC E RX10 cc nL ret d) (pc' : Nat) (hd : decode cc pc = .ok (.getfield 28, 3)) (hp : pc + 3 = pc') (k : GW SC E Q pc' L (.ref (e_ad E 5) :: st) σ) : GW SC E Q pc L (.ref (e_ad E 0) :: st) σ := G_get (v := .ref (e_ad E 5)) C pc' FL_10_28 (by decide) (eC _ _ _) rfl hd hp k
theorem FL_10_57 : gFl RX10 57 10 RX10 TX10 9 3 := ⟨rfl, by decide, inX10, w_391, rfl⟩
theorem X10_57g {E : gE} {cc : ByteArray} {nL : Nat} {ret : Option FieldType} {d : Nat} {Q : State → Prop} {pc : Nat} {L : List (Option Value)} {st : List Value} {σ : gS} (C : gCx SC E RX10 cc nL ret d) (pc' : Nat) (hd : decode cc pc = .ok (.getfield 57, 3)) (hp : pc + 3 = pc') (k : GW SC E Q pc' L (.ref (e_ad E 45) :: st) σ) : GW SC E Q pc L (.ref (e_ad E 0) :: st) σ := G_get (v := .ref (e_ad E 45)) C pc' FL_10_57 (by decide) (eC _ _ _) rfl hd hp k
theorem FL_10_61 : gFl RX10 61 10 RX10 TX10 9 4 := ⟨rfl, by decide, inX10, w_392, rfl⟩
theorem X10_61g {E : gE} {cc : ByteArray} {nL : Nat} {ret : Option FieldType} {d : Nat} {Q : State → Prop} {pc : Nat} {L : List (Option Value)} {st : List Value} {σ : gS} (C : gCx SC E RX10 cc nL ret d) (pc' : Nat) (hd : decode cc pc = .ok (.getfield 61, 3)) (hp : pc + 3 = pc') (k : GW SC E Q pc' L (.ref (e_ad E 54) :: st) σ) : GW SC E Q pc L (.ref (e_ad E 0) :: st) σ := G_get (v := .ref (e_ad E 54)) C pc' FL_10_61 (by decide) (eC _ _ _) rfl hd hp k
theorem FL_10_64 : gFl RX10 64 10 RX10 TX10 9 5 := ⟨rfl, by decide, inX10, w_393, rfl⟩
theorem X10_64g {E : gE} {cc : ByteArray} {nL : Nat} {ret : Option FieldType} {d : Nat} {Q : State → Prop} {pc : Nat} {L : List (Option Value)} {st : List Value} {σ : gS} (C : gCx SC E RX10 cc nL ret d) (pc' : Nat) (hd : decode cc pc = .ok (.getfield 64, 3)) (hp : pc + 3 = pc') (k : GW SC E Q pc' L (.ref (e_ad E 63) :: st) σ) : GW SC E Q pc L (.ref (e_ad E 0) :: st) σ := G_get (v := .ref (e_ad E 63)) C pc' FL_10_64 (by decide) (eC _ _ _) rfl hd hp k
theorem FN_10_87 : gFn SC RX10 RX10 87 6 RX6 TX6 7 1 := ⟨rfl, by decide, inX6, fun z A U H h => h.2.2.2.2.2.2 _ (gNB_of w_41 rfl), rfl⟩
theorem X10_87g {E : gE} {cc : ByteArray} {nL : Nat} {ret : Option FieldType} {d : Nat} {Q : State → Prop} {pc : Nat} {L : List (Option Value)} {st : List Value} {σ : gS} (C : gCx SC E RX10 cc nL ret d) (pc' : Nat) (hd : decode cc pc = .ok (.getfield 87, 3)) (hp : pc + 3 = pc') (k : ∀ x : Int32, x = σ 3 1 → GW SC E Q pc' L (.int x :: st) σ) : GW SC E Q pc L (.ref (e_ad E 3) :: st) σ := G_getN (v := .int (σ 3 1)) C pc' FN_10_87 (by decide) (eTp _ _ _) rfl hd hp (k _ rfl)
theorem X10_87p {E : gE} {cc : ByteArray} {nL : Nat} {ret : Option FieldType} {d : Nat} {Q : State → Prop} {pc : Nat} {L : List (Option Value)} {st : List Value} {σ : gS} (C : gCx SC E RX10 cc nL ret d) (pc' : Nat) {x : Int32} (hd : decode cc pc = .ok (.putfield 87, 3)) (hp : pc + 3 = pc') (k : ∀ σ', σ' = g_up σ 3 1 x → GW SC E Q pc' L st σ') : GW SC E Q pc L (.int x :: .ref (e_ad E 3) :: st) σ := G_putiN (fs := fTp (e_ad E)) C pc' FN_10_87 FP_6_1 (by decide) (by decide) (fun σ => eTp _ _ σ) (by simp [fTp, g_up, g_set, upd]) (by simp [fTp]) hd hp k
theorem FL_10_91 : gFl RX10 91 10 RX10 TX10 9 8 := ⟨rfl, by decide, inX10, w_396, rfl⟩
theorem X10_91g {E : gE} {cc : ByteArray} {nL : Nat} {ret : Option FieldType} {d : Nat} {Q : State → Prop} {pc : Nat} {L : List (Option Value)} {st : List Value} {σ : gS} (C : gCx SC E RX10 cc nL ret d) (pc' : Nat) (hd : decode cc pc = .ok (.getfield 91, 3)) (hp : pc + 3 = pc') (k : ∀ x : Int32, x = σ 0 8 → GW SC E Q pc' L (.int x :: st) σ) : GW SC E Q pc L (.ref (e_ad E 0) :: st) σ := G_get (v := .int (σ 0 8)) C pc' FL_10_91 (by decide) (eC _ _ _) rfl hd hp (k _ rfl)
theorem X10_91p {E : gE} {cc : ByteArray} {nL : Nat} {ret : Option FieldType} {d : Nat} {Q : State → Prop} {pc : Nat} {L : List (Option Value)} {st : List Value} {σ : gS} (C : gCx SC E RX10 cc nL ret d) (pc' : Nat) {x : Int32} (hd : decode cc pc = .ok (.putfield 91, 3)) (hp : pc + 3 = pc') (k : ∀ σ', σ' = g_up σ 0 8 x → GW SC E Q pc' L st σ') : GW SC E Q pc L (.int x :: .ref (e_ad E 0) :: st) σ := G_puti (fs := fC (e_ad E)) C pc' FL_10_91 FP_10_8 (by decide) (by decide) (fun σ => eC _ _ σ) (by simp [fC, g_up, g_set, upd]) (by simp [fC]) hd hp k
theorem FN_10_94 : gFn SC RX10 RX10 94 9 RX9 TX9 15 6 := ⟨rfl, by decide, inX9, fun z A U H h => h.2.2.2.2.2.2 _ (gNB_of w_162 rfl), rfl⟩
theorem X10_94g {E : gE} {cc : ByteArray} {nL : Nat} {ret : Option FieldType} {d : Nat} {Q : State → Prop} {pc : Nat} {L : List (Option Value)} {st : List Value} {σ : gS} (C : gCx SC E RX10 cc nL ret d) {w : Nat} (hw : isW w) (pc' : Nat) (hd : decode cc pc = .ok (.getfield 94, 3)) (hp : pc + 3 = pc') (k : ∀ x : Int32, x = σ w 6 → GW SC E Q pc' L (.int x :: st) σ) : GW SC E Q pc L (.ref (e_ad E w) :: st) σ := G_getN (v := .int (σ w 6)) C pc' FN_10_94 (lW0 hw) (eW _ _ _ hw) rfl hd hp (k _ rfl)
theorem X10_94p {E : gE} {cc : ByteArray} {nL : Nat} {ret : Option FieldType} {d : Nat} {Q : State → Prop} {pc : Nat} {L : List (Option Value)} {st : List Value} {σ : gS} (C : gCx SC E RX10 cc nL ret d) {w : Nat} (hw : isW w) (pc' : Nat) {x : Int32} (hd : decode cc pc = .ok (.putfield 94, 3)) (hp : pc + 3 = pc') (k : ∀ σ', σ' = g_up σ w 6 x → GW SC E Q pc' L st σ') : GW SC E Q pc L (.int x :: .ref (e_ad E w) :: st) σ := G_putiN (fs := fW w (e_ad E)) C pc' FN_10_94 FP_9_6 (lW0 hw) (by rw [nW0 hw]; decide) (fun σ => eW _ _ σ hw) (by simp [fW, g_up, g_set, upd]) (by simp [fW]) hd hp k
theorem FN_10_97 : gFn SC RX10 RX10 97 9 RX9 TX9 15 2 := ⟨rfl, by decide, inX9, fun z A U H h => h.2.2.2.2.2.2 _ (gNB_of w_154 rfl), rfl⟩
theorem X10_97g {E : gE} {cc : ByteArray} {nL : Nat} {ret : Option FieldType} {d : Nat} {Q : State → Prop} {pc : Nat} {L : List (Option Value)} {st : List Value} {σ : gS} (C : gCx SC E RX10 cc nL ret d) {w : Nat} (hw : isW w) (pc' : Nat) (hd : decode cc pc = .ok (.getfield 97, 3)) (hp : pc + 3 = pc') (k : ∀ x : Int32, x = σ w 2 → GW SC E Q pc' L (.int x :: st) σ) : GW SC E Q pc L (.ref (e_ad E w) :: st) σ := G_getN (v := .int (σ w 2)) C pc' FN_10_97 (lW0 hw) (eW _ _ _ hw) rfl hd hp (k _ rfl)
theorem X10_97p {E : gE} {cc : ByteArray} {nL : Nat} {ret : Option FieldType} {d : Nat} {Q : State → Prop} {pc : Nat} {L : List (Option Value)} {st : List Value} {σ : gS} (C : gCx SC E RX10 cc nL ret d) {w : Nat} (hw : isW w) (pc' : Nat) {x : Int32} (hd : decode cc pc = .ok (.putfield 97, 3)) (hp : pc + 3 = pc') (k : ∀ σ', σ' = g_up σ w 2 x → GW SC E Q pc' L st σ') : GW SC E Q pc L (.int x :: .ref (e_ad E w) :: st) σ := G_putiN (fs := fW w (e_ad E)) C pc' FN_10_97 FP_9_2 (lW0 hw) (by rw [nW0 hw]; decide) (fun σ => eW _ _ σ hw) (by simp [fW, g_up, g_set, upd]) (by simp [fW]) hd hp k
theorem FN_10_100 : gFn SC RX10 RX10 100 9 RX9 TX9 15 4 := ⟨rfl, by decide, inX9, fun z A U H h => h.2.2.2.2.2.2 _ (gNB_of w_158 rfl), rfl⟩
theorem X10_100g {E : gE} {cc : ByteArray} {nL : Nat} {ret : Option FieldType} {d : Nat} {Q : State → Prop} {pc : Nat} {L : List (Option Value)} {st : List Value} {σ : gS} (C : gCx SC E RX10 cc nL ret d) {w : Nat} (hw : isW w) (pc' : Nat) (hd : decode cc pc = .ok (.getfield 100, 3)) (hp : pc + 3 = pc') (k : ∀ x : Int32, x = σ w 4 → GW SC E Q pc' L (.int x :: st) σ) : GW SC E Q pc L (.ref (e_ad E w) :: st) σ := G_getN (v := .int (σ w 4)) C pc' FN_10_100 (lW0 hw) (eW _ _ _ hw) rfl hd hp (k _ rfl)
theorem X10_100p {E : gE} {cc : ByteArray} {nL : Nat} {ret : Option FieldType} {d : Nat} {Q : State → Prop} {pc : Nat} {L : List (Option Value)} {st : List Value} {σ : gS} (C : gCx SC E RX10 cc nL ret d) {w : Nat} (hw : isW w) (pc' : Nat) {x : Int32} (hd : decode cc pc = .ok (.putfield 100, 3)) (hp : pc + 3 = pc') (k : ∀ σ', σ' = g_up σ w 4 x → GW SC E Q pc' L st σ') : GW SC E Q pc L (.int x :: .ref (e_ad E w) :: st) σ := G_putiN (fs := fW w (e_ad E)) C pc' FN_10_100 FP_9_4 (lW0 hw) (by rw [nW0 hw]; decide) (fun σ => eW _ _ σ hw) (by simp [fW, g_up, g_set, upd]) (by simp [fW]) hd hp k
theorem FN_10_109 : gFn SC RX10 RX10 109 9 RX9 TX9 15 5 := ⟨rfl, by decide, inX9, fun z A U H h => h.2.2.2.2.2.2 _ (gNB_of w_160 rfl), rfl⟩
theorem X10_109g {E : gE} {cc : ByteArray} {nL : Nat} {ret : Option FieldType} {d : Nat} {Q : State → Prop} {pc : Nat} {L : List (Option Value)} {st : List Value} {σ : gS} (C : gCx SC E RX10 cc nL ret d) {w : Nat} (hw : isW w) (pc' : Nat) (hd : decode cc pc = .ok (.getfield 109, 3)) (hp : pc + 3 = pc') (k : ∀ x : Int32, x = σ w 5 → GW SC E Q pc' L (.int x :: st) σ) : GW SC E Q pc L (.ref (e_ad E w) :: st) σ := G_getN (v := .int (σ w 5)) C pc' FN_10_109 (lW0 hw) (eW _ _ _ hw) rfl hd hp (k _ rfl)
theorem X10_109p {E : gE} {cc : ByteArray} {nL : Nat} {ret : Option FieldType} {d : Nat} {Q : State → Prop} {pc : Nat} {L : List (Option Value)} {st : List Value} {σ : gS} (C : gCx SC E RX10 cc nL ret d) {w : Nat} (hw : isW w) (pc' : Nat) {x : Int32} (hd : decode cc pc = .ok (.putfield 109, 3)) (hp : pc + 3 = pc') (k : ∀ σ', σ' = g_up σ w 5 x → GW SC E Q pc' L st σ') : GW SC E Q pc L (.int x :: .ref (e_ad E w) :: st) σ := G_putiN (fs := fW w (e_ad E)) C pc' FN_10_109 FP_9_5 (lW0 hw) (by rw [nW0 hw]; decide) (fun σ => eW _ _ σ hw) (by simp [fW, g_up, g_set, upd]) (by simp [fW]) hd hp k
theorem FN_10_122 : gFn SC RX10 RX10 122 9 RX9 TX9 15 3 := ⟨rfl, by decide, inX9, fun z A U H h => h.2.2.2.2.2.2 _ (gNB_of w_156 rfl), rfl⟩
theorem X10_122g {E : gE} {cc : ByteArray} {nL : Nat} {ret : Option FieldType} {d : Nat} {Q : State → Prop} {pc : Nat} {L : List (Option Value)} {st : List Value} {σ : gS} (C : gCx SC E RX10 cc nL ret d) {w : Nat} (hw : isW w) (pc' : Nat) (hd : decode cc pc = .ok (.getfield 122, 3)) (hp : pc + 3 = pc') (k : ∀ x : Int32, x = σ w 3 → GW SC E Q pc' L (.int x :: st) σ) : GW SC E Q pc L (.ref (e_ad E w) :: st) σ := G_getN (v := .int (σ w 3)) C pc' FN_10_122 (lW0 hw) (eW _ _ _ hw) rfl hd hp (k _ rfl)
theorem X10_122p {E : gE} {cc : ByteArray} {nL : Nat} {ret : Option FieldType} {d : Nat} {Q : State → Prop} {pc : Nat} {L : List (Option Value)} {st : List Value} {σ : gS} (C : gCx SC E RX10 cc nL ret d) {w : Nat} (hw : isW w) (pc' : Nat) {x : Int32} (hd : decode cc pc = .ok (.putfield 122, 3)) (hp : pc + 3 = pc') (k : ∀ σ', σ' = g_up σ w 3 x → GW SC E Q pc' L st σ') : GW SC E Q pc L (.int x :: .ref (e_ad E w) :: st) σ := G_putiN (fs := fW w (e_ad E)) C pc' FN_10_122 FP_9_3 (lW0 hw) (by rw [nW0 hw]; decide) (fun σ => eW _ _ σ hw) (by simp [fW, g_up, g_set, upd]) (by simp [fW]) hd hp k
theorem FN_10_125 : gFn SC RX10 RX10 125 9 RX9 TX9 15 7 := ⟨rfl, by decide, inX9, fun z A U H h => h.2.2.2.2.2.2 _ (gNB_of w_164 rfl), rfl⟩
theorem X10_125g {E : gE} {cc : ByteArray} {nL : Nat} {ret : Option FieldType} {d : Nat} {Q : State → Prop} {pc : Nat} {L : List (Option Value)} {st : List Value} {σ : gS} (C : gCx SC E RX10 cc nL ret d) {w : Nat} (hw : isW w) (pc' : Nat) (hd : decode cc pc = .ok (.getfield 125, 3)) (hp : pc + 3 = pc') (k : GW SC E Q pc' L (.ref (e_ad E (w + 1)) :: st) σ) : GW SC E Q pc L (.ref (e_ad E w) :: st) σ := G_getN (v := .ref (e_ad E (w + 1))) C pc' FN_10_125 (lW0 hw) (eW _ _ _ hw) rfl hd hp k
theorem FN_10_184 : gFn SC RX10 RX10 184 9 RX9 TX9 15 8 := ⟨rfl, by decide, inX9, fun z A U H h => h.2.2.2.2.2.2 _ (gNB_of w_166 rfl), rfl⟩
theorem X10_184g {E : gE} {cc : ByteArray} {nL : Nat} {ret : Option FieldType} {d : Nat} {Q : State → Prop} {pc : Nat} {L : List (Option Value)} {st : List Value} {σ : gS} (C : gCx SC E RX10 cc nL ret d) {w : Nat} (hw : isW w) (pc' : Nat) (hd : decode cc pc = .ok (.getfield 184, 3)) (hp : pc + 3 = pc') (k : GW SC E Q pc' L (.ref (e_ad E (w + 2)) :: st) σ) : GW SC E Q pc L (.ref (e_ad E w) :: st) σ := G_getN (v := .ref (e_ad E (w + 2))) C pc' FN_10_184 (lW0 hw) (eW _ _ _ hw) rfl hd hp k
theorem FN_10_187 : gFn SC RX10 RX10 187 9 RX9 TX9 15 10 := ⟨rfl, by decide, inX9, fun z A U H h => h.2.2.2.2.2.2 _ (gNB_of w_170 rfl), rfl⟩
theorem X10_187g {E : gE} {cc : ByteArray} {nL : Nat} {ret : Option FieldType} {d : Nat} {Q : State → Prop} {pc : Nat} {L : List (Option Value)} {st : List Value} {σ : gS} (C : gCx SC E RX10 cc nL ret d) {w : Nat} (hw : isW w) (pc' : Nat) (hd : decode cc pc = .ok (.getfield 187, 3)) (hp : pc + 3 = pc') (k : GW SC E Q pc' L (.ref (e_ad E (w + 4)) :: st) σ) : GW SC E Q pc L (.ref (e_ad E w) :: st) σ := G_getN (v := .ref (e_ad E (w + 4))) C pc' FN_10_187 (lW0 hw) (eW _ _ _ hw) rfl hd hp k
theorem FN_10_193 : gFn SC RX10 RX10 193 9 RX9 TX9 15 11 := ⟨rfl, by decide, inX9, fun z A U H h => h.2.2.2.2.2.2 _ (gNB_of w_172 rfl), rfl⟩
theorem X10_193g {E : gE} {cc : ByteArray} {nL : Nat} {ret : Option FieldType} {d : Nat} {Q : State → Prop} {pc : Nat} {L : List (Option Value)} {st : List Value} {σ : gS} (C : gCx SC E RX10 cc nL ret d) {w : Nat} (hw : isW w) (pc' : Nat) (hd : decode cc pc = .ok (.getfield 193, 3)) (hp : pc + 3 = pc') (k : GW SC E Q pc' L (.ref (e_ad E (w + 5)) :: st) σ) : GW SC E Q pc L (.ref (e_ad E w) :: st) σ := G_getN (v := .ref (e_ad E (w + 5))) C pc' FN_10_193 (lW0 hw) (eW _ _ _ hw) rfl hd hp k
theorem FN_10_219 : gFn SC RX10 RX10 219 9 RX9 TX9 15 12 := ⟨rfl, by decide, inX9, fun z A U H h => h.2.2.2.2.2.2 _ (gNB_of w_174 rfl), rfl⟩
theorem X10_219g {E : gE} {cc : ByteArray} {nL : Nat} {ret : Option FieldType} {d : Nat} {Q : State → Prop} {pc : Nat} {L : List (Option Value)} {st : List Value} {σ : gS} (C : gCx SC E RX10 cc nL ret d) {w : Nat} (hw : isW w) (pc' : Nat) (hd : decode cc pc = .ok (.getfield 219, 3)) (hp : pc + 3 = pc') (k : GW SC E Q pc' L (.ref (e_ad E (w + 6)) :: st) σ) : GW SC E Q pc L (.ref (e_ad E w) :: st) σ := G_getN (v := .ref (e_ad E (w + 6))) C pc' FN_10_219 (lW0 hw) (eW _ _ _ hw) rfl hd hp k
theorem FN_10_222 : gFn SC RX10 RX10 222 9 RX9 TX9 15 13 := ⟨rfl, by decide, inX9, fun z A U H h => h.2.2.2.2.2.2 _ (gNB_of w_176 rfl), rfl⟩
theorem X10_222g {E : gE} {cc : ByteArray} {nL : Nat} {ret : Option FieldType} {d : Nat} {Q : State → Prop} {pc : Nat} {L : List (Option Value)} {st : List Value} {σ : gS} (C : gCx SC E RX10 cc nL ret d) {w : Nat} (hw : isW w) (pc' : Nat) (hd : decode cc pc = .ok (.getfield 222, 3)) (hp : pc + 3 = pc') (k : GW SC E Q pc' L (.ref (e_ad E (w + 7)) :: st) σ) : GW SC E Q pc L (.ref (e_ad E w) :: st) σ := G_getN (v := .ref (e_ad E (w + 7))) C pc' FN_10_222 (lW0 hw) (eW _ _ _ hw) rfl hd hp k
theorem FL_10_235 : gFl RX10 235 10 RX10 TX10 9 7 := ⟨rfl, by decide, inX10, w_395, rfl⟩
theorem X10_235g {E : gE} {cc : ByteArray} {nL : Nat} {ret : Option FieldType} {d : Nat} {Q : State → Prop} {pc : Nat} {L : List (Option Value)} {st : List Value} {σ : gS} (C : gCx SC E RX10 cc nL ret d) (pc' : Nat) (hd : decode cc pc = .ok (.getfield 235, 3)) (hp : pc + 3 = pc') (k : ∀ x : Int32, x = σ 0 7 → GW SC E Q pc' L (.int x :: st) σ) : GW SC E Q pc L (.ref (e_ad E 0) :: st) σ := G_get (v := .int (σ 0 7)) C pc' FL_10_235 (by decide) (eC _ _ _) rfl hd hp (k _ rfl)
theorem X10_235p {E : gE} {cc : ByteArray} {nL : Nat} {ret : Option FieldType} {d : Nat} {Q : State → Prop} {pc : Nat} {L : List (Option Value)} {st : List Value} {σ : gS} (C : gCx SC E RX10 cc nL ret d) (pc' : Nat) {x : Int32} (hx : narrow .boolean (.int x) = .int x ∧ fits .boolean (.int x) = true) (hd : decode cc pc = .ok (.putfield 235, 3)) (hp : pc + 3 = pc') (k : ∀ σ', σ' = g_up σ 0 7 x → GW SC E Q pc' L st σ') : GW SC E Q pc L (.int x :: .ref (e_ad E 0) :: st) σ := G_putz (fs := fC (e_ad E)) C pc' FL_10_235 FP_10_7 hx (by decide) (by decide) (fun σ => eC _ _ σ) (by simp [fC, g_up, g_set, upd]) (by simp [fC]) hd hp k
theorem FN_10_239 : gFn SC RX10 RX10 239 4 RX4 TX4 3 1 := ⟨rfl, by decide, inX4, fun z A U H h => h.2.2.2.2.2.2 _ (gNB_of w_92 rfl), rfl⟩
theorem X10_239g {E : gE} {cc : ByteArray} {nL : Nat} {ret : Option FieldType} {d : Nat} {Q : State → Prop} {pc : Nat} {L : List (Option Value)} {st : List Value} {σ : gS} (C : gCx SC E RX10 cc nL ret d) {t : Nat} (ht : t < 4) (pc' : Nat) (hd : decode cc pc = .ok (.getfield 239, 3)) (hp : pc + 3 = pc') (k : ∀ x : Int32, x = σ (30 + 2 * t) 1 → GW SC E Q pc' L (.int x :: st) σ) : GW SC E Q pc L (.ref (e_ad E (30 + 2 * t)) :: st) σ := G_getN (v := .int (σ (30 + 2 * t) 1)) C pc' FN_10_239 (lS0 ht) (eSh _ _ _ ht) rfl hd hp (k _ rfl)
theorem X10_239p {E : gE} {cc : ByteArray} {nL : Nat} {ret : Option FieldType} {d : Nat} {Q : State → Prop} {pc : Nat} {L : List (Option Value)} {st : List Value} {σ : gS} (C : gCx SC E RX10 cc nL ret d) {t : Nat} (ht : t < 4) (pc' : Nat) {x : Int32} (hd : decode cc pc = .ok (.putfield 239, 3)) (hp : pc + 3 = pc') (k : ∀ σ', σ' = g_up σ (30 + 2 * t) 1 x → GW SC E Q pc' L st σ') : GW SC E Q pc L (.int x :: .ref (e_ad E (30 + 2 * t)) :: st) σ := G_putiN (fs := fSh (30 + 2 * t) (e_ad E)) C pc' FN_10_239 FP_4_1 (lS0 ht) (by rw [nS0 ht]; decide) (fun σ => eSh _ _ σ ht) (by simp [fSh, g_up, g_set, upd]) (by simp [fSh]) hd hp k
theorem FN_10_242 : gFn SC RX10 RX10 242 4 RX4 TX4 3 2 := ⟨rfl, by decide, inX4, fun z A U H h => h.2.2.2.2.2.2 _ (gNB_of w_94 rfl), rfl⟩
theorem X10_242g {E : gE} {cc : ByteArray} {nL : Nat} {ret : Option FieldType} {d : Nat} {Q : State → Prop} {pc : Nat} {L : List (Option Value)} {st : List Value} {σ : gS} (C : gCx SC E RX10 cc nL ret d) {t : Nat} (ht : t < 4) (pc' : Nat) (hd : decode cc pc = .ok (.getfield 242, 3)) (hp : pc + 3 = pc') (k : ∀ x : Int32, x = σ (30 + 2 * t) 2 → GW SC E Q pc' L (.int x :: st) σ) : GW SC E Q pc L (.ref (e_ad E (30 + 2 * t)) :: st) σ := G_getN (v := .int (σ (30 + 2 * t) 2)) C pc' FN_10_242 (lS0 ht) (eSh _ _ _ ht) rfl hd hp (k _ rfl)
theorem X10_242p {E : gE} {cc : ByteArray} {nL : Nat} {ret : Option FieldType} {d : Nat} {Q : State → Prop} {pc : Nat} {L : List (Option Value)} {st : List Value} {σ : gS} (C : gCx SC E RX10 cc nL ret d) {t : Nat} (ht : t < 4) (pc' : Nat) {x : Int32} (hd : decode cc pc = .ok (.putfield 242, 3)) (hp : pc + 3 = pc') (k : ∀ σ', σ' = g_up σ (30 + 2 * t) 2 x → GW SC E Q pc' L st σ') : GW SC E Q pc L (.int x :: .ref (e_ad E (30 + 2 * t)) :: st) σ := G_putiN (fs := fSh (30 + 2 * t) (e_ad E)) C pc' FN_10_242 FP_4_2 (lS0 ht) (by rw [nS0 ht]; decide) (fun σ => eSh _ _ σ ht) (by simp [fSh, g_up, g_set, upd]) (by simp [fSh]) hd hp k
theorem FN_10_246 : gFn SC RX10 RX10 246 4 RX4 TX4 3 0 := ⟨rfl, by decide, inX4, fun z A U H h => h.2.2.2.2.2.2 _ (gNB_of w_90 rfl), rfl⟩
theorem X10_246g {E : gE} {cc : ByteArray} {nL : Nat} {ret : Option FieldType} {d : Nat} {Q : State → Prop} {pc : Nat} {L : List (Option Value)} {st : List Value} {σ : gS} (C : gCx SC E RX10 cc nL ret d) {t : Nat} (ht : t < 4) (pc' : Nat) (hd : decode cc pc = .ok (.getfield 246, 3)) (hp : pc + 3 = pc') (k : GW SC E Q pc' L (.ref (e_ad E (30 + 2 * t + 1)) :: st) σ) : GW SC E Q pc L (.ref (e_ad E (30 + 2 * t)) :: st) σ := G_getN (v := .ref (e_ad E (30 + 2 * t + 1))) C pc' FN_10_246 (lS0 ht) (eSh _ _ _ ht) rfl hd hp k
theorem FN_10_273 : gFn SC RX10 RX10 273 9 RX9 TX9 15 9 := ⟨rfl, by decide, inX9, fun z A U H h => h.2.2.2.2.2.2 _ (gNB_of w_168 rfl), rfl⟩
theorem X10_273g {E : gE} {cc : ByteArray} {nL : Nat} {ret : Option FieldType} {d : Nat} {Q : State → Prop} {pc : Nat} {L : List (Option Value)} {st : List Value} {σ : gS} (C : gCx SC E RX10 cc nL ret d) {w : Nat} (hw : isW w) (pc' : Nat) (hd : decode cc pc = .ok (.getfield 273, 3)) (hp : pc + 3 = pc') (k : GW SC E Q pc' L (.ref (e_ad E (w + 3)) :: st) σ) : GW SC E Q pc L (.ref (e_ad E w) :: st) σ := G_getN (v := .ref (e_ad E (w + 3))) C pc' FN_10_273 (lW0 hw) (eW _ _ _ hw) rfl hd hp k
theorem FL_4_9 : gFl RX4 9 4 RX4 TX4 3 0 := ⟨rfl, by decide, inX4, w_89, rfl⟩
theorem X4_9g {E : gE} {cc : ByteArray} {nL : Nat} {ret : Option FieldType} {d : Nat} {Q : State → Prop} {pc : Nat} {L : List (Option Value)} {st : List Value} {σ : gS} (C : gCx SC E RX4 cc nL ret d) {t : Nat} (ht : t < 4) (pc' : Nat) (hd : decode cc pc = .ok (.getfield 9, 3)) (hp : pc + 3 = pc') (k : GW SC E Q pc' L (.ref (e_ad E (30 + 2 * t + 1)) :: st) σ) : GW SC E Q pc L (.ref (e_ad E (30 + 2 * t)) :: st) σ := G_get (v := .ref (e_ad E (30 + 2 * t + 1))) C pc' FL_4_9 (lS0 ht) (eSh _ _ _ ht) rfl hd hp k
theorem FL_4_15 : gFl RX4 15 4 RX4 TX4 3 1 := ⟨rfl, by decide, inX4, w_91, rfl⟩
theorem X4_15g {E : gE} {cc : ByteArray} {nL : Nat} {ret : Option FieldType} {d : Nat} {Q : State → Prop} {pc : Nat} {L : List (Option Value)} {st : List Value} {σ : gS} (C : gCx SC E RX4 cc nL ret d) {t : Nat} (ht : t < 4) (pc' : Nat) (hd : decode cc pc = .ok (.getfield 15, 3)) (hp : pc + 3 = pc') (k : ∀ x : Int32, x = σ (30 + 2 * t) 1 → GW SC E Q pc' L (.int x :: st) σ) : GW SC E Q pc L (.ref (e_ad E (30 + 2 * t)) :: st) σ := G_get (v := .int (σ (30 + 2 * t) 1)) C pc' FL_4_15 (lS0 ht) (eSh _ _ _ ht) rfl hd hp (k _ rfl)
theorem X4_15p {E : gE} {cc : ByteArray} {nL : Nat} {ret : Option FieldType} {d : Nat} {Q : State → Prop} {pc : Nat} {L : List (Option Value)} {st : List Value} {σ : gS} (C : gCx SC E RX4 cc nL ret d) {t : Nat} (ht : t < 4) (pc' : Nat) {x : Int32} (hd : decode cc pc = .ok (.putfield 15, 3)) (hp : pc + 3 = pc') (k : ∀ σ', σ' = g_up σ (30 + 2 * t) 1 x → GW SC E Q pc' L st σ') : GW SC E Q pc L (.int x :: .ref (e_ad E (30 + 2 * t)) :: st) σ := G_puti (fs := fSh (30 + 2 * t) (e_ad E)) C pc' FL_4_15 FP_4_1 (lS0 ht) (by rw [nS0 ht]; decide) (fun σ => eSh _ _ σ ht) (by simp [fSh, g_up, g_set, upd]) (by simp [fSh]) hd hp k
theorem FL_4_19 : gFl RX4 19 4 RX4 TX4 3 2 := ⟨rfl, by decide, inX4, w_93, rfl⟩
theorem X4_19g {E : gE} {cc : ByteArray} {nL : Nat} {ret : Option FieldType} {d : Nat} {Q : State → Prop} {pc : Nat} {L : List (Option Value)} {st : List Value} {σ : gS} (C : gCx SC E RX4 cc nL ret d) {t : Nat} (ht : t < 4) (pc' : Nat) (hd : decode cc pc = .ok (.getfield 19, 3)) (hp : pc + 3 = pc') (k : ∀ x : Int32, x = σ (30 + 2 * t) 2 → GW SC E Q pc' L (.int x :: st) σ) : GW SC E Q pc L (.ref (e_ad E (30 + 2 * t)) :: st) σ := G_get (v := .int (σ (30 + 2 * t) 2)) C pc' FL_4_19 (lS0 ht) (eSh _ _ _ ht) rfl hd hp (k _ rfl)
theorem X4_19p {E : gE} {cc : ByteArray} {nL : Nat} {ret : Option FieldType} {d : Nat} {Q : State → Prop} {pc : Nat} {L : List (Option Value)} {st : List Value} {σ : gS} (C : gCx SC E RX4 cc nL ret d) {t : Nat} (ht : t < 4) (pc' : Nat) {x : Int32} (hd : decode cc pc = .ok (.putfield 19, 3)) (hp : pc + 3 = pc') (k : ∀ σ', σ' = g_up σ (30 + 2 * t) 2 x → GW SC E Q pc' L st σ') : GW SC E Q pc L (.int x :: .ref (e_ad E (30 + 2 * t)) :: st) σ := G_puti (fs := fSh (30 + 2 * t) (e_ad E)) C pc' FL_4_19 FP_4_2 (lS0 ht) (by rw [nS0 ht]; decide) (fun σ => eSh _ _ σ ht) (by simp [fSh, g_up, g_set, upd]) (by simp [fSh]) hd hp k
theorem FL_6_9 : gFl RX6 9 6 RX6 TX6 7 0 := ⟨rfl, by decide, inX6, w_40, rfl⟩
theorem X6_9g {E : gE} {cc : ByteArray} {nL : Nat} {ret : Option FieldType} {d : Nat} {Q : State → Prop} {pc : Nat} {L : List (Option Value)} {st : List Value} {σ : gS} (C : gCx SC E RX6 cc nL ret d) (pc' : Nat) (hd : decode cc pc = .ok (.getfield 9, 3)) (hp : pc + 3 = pc') (k : GW SC E Q pc' L (.ref (e_ad E 4) :: st) σ) : GW SC E Q pc L (.ref (e_ad E 3) :: st) σ := G_get (v := .ref (e_ad E 4)) C pc' FL_6_9 (by decide) (eTp _ _ _) rfl hd hp k
theorem FL_6_15 : gFl RX6 15 6 RX6 TX6 7 1 := ⟨rfl, by decide, inX6, w_42, rfl⟩
theorem X6_15g {E : gE} {cc : ByteArray} {nL : Nat} {ret : Option FieldType} {d : Nat} {Q : State → Prop} {pc : Nat} {L : List (Option Value)} {st : List Value} {σ : gS} (C : gCx SC E RX6 cc nL ret d) (pc' : Nat) (hd : decode cc pc = .ok (.getfield 15, 3)) (hp : pc + 3 = pc') (k : ∀ x : Int32, x = σ 3 1 → GW SC E Q pc' L (.int x :: st) σ) : GW SC E Q pc L (.ref (e_ad E 3) :: st) σ := G_get (v := .int (σ 3 1)) C pc' FL_6_15 (by decide) (eTp _ _ _) rfl hd hp (k _ rfl)
theorem X6_15p {E : gE} {cc : ByteArray} {nL : Nat} {ret : Option FieldType} {d : Nat} {Q : State → Prop} {pc : Nat} {L : List (Option Value)} {st : List Value} {σ : gS} (C : gCx SC E RX6 cc nL ret d) (pc' : Nat) {x : Int32} (hd : decode cc pc = .ok (.putfield 15, 3)) (hp : pc + 3 = pc') (k : ∀ σ', σ' = g_up σ 3 1 x → GW SC E Q pc' L st σ') : GW SC E Q pc L (.int x :: .ref (e_ad E 3) :: st) σ := G_puti (fs := fTp (e_ad E)) C pc' FL_6_15 FP_6_1 (by decide) (by decide) (fun σ => eTp _ _ σ) (by simp [fTp, g_up, g_set, upd]) (by simp [fTp]) hd hp k
theorem FL_6_19 : gFl RX6 19 6 RX6 TX6 7 6 := ⟨rfl, by decide, inX6, w_47, rfl⟩
theorem X6_19g {E : gE} {cc : ByteArray} {nL : Nat} {ret : Option FieldType} {d : Nat} {Q : State → Prop} {pc : Nat} {L : List (Option Value)} {st : List Value} {σ : gS} (C : gCx SC E RX6 cc nL ret d) (pc' : Nat) (t : Nat) (ht : t < 6) (hi : σ 3 6 = nI (6 + 4 * t)) (hd : decode cc pc = .ok (.getfield 19, 3)) (hp : pc + 3 = pc') (k : GW SC E Q pc' L (.ref (e_ad E (6 + 4 * t)) :: st) σ) : GW SC E Q pc L (.ref (e_ad E 3) :: st) σ := by
  have hv : intoV (e_ad E) (σ 3 6) = .ref (e_ad E (6 + 4 * t)) := by
    unfold intoV
    rw [hi, if_neg (nI_ne0 (by omega) (by omega)), nI_clamp (by omega)]
  refine G_get (v := .ref (e_ad E (6 + 4 * t))) C pc' FL_6_19 (by decide) (eTp _ _ _) ?_ hd hp k
  rw [← hv]
  rfl
theorem X6_19p {E : gE} {cc : ByteArray} {nL : Nat} {ret : Option FieldType} {d : Nat} {Q : State → Prop} {pc : Nat} {L : List (Option Value)} {st : List Value} {σ : gS} (C : gCx SC E RX6 cc nL ret d) (pc' : Nat) (t : Nat) (ht : t < 6) (hd : decode cc pc = .ok (.putfield 19, 3)) (hp : pc + 3 = pc') (k : ∀ σ', σ' = g_up σ 3 6 (nI (6 + 4 * t)) → GW SC E Q pc' L st σ') : GW SC E Q pc L (.ref (e_ad E (6 + 4 * t)) :: .ref (e_ad E 3) :: st) σ := by
  refine G_put (σ' := g_up σ 3 6 (nI (6 + 4 * t))) C pc' FL_6_19 FP_6_6 (by decide) (eTp _ _ _) ?_ (fun a ha => g_set_n _ _ ha) (fun h => gz_up h (by decide)) (by simp [fTp]) ⟨rfl, rfl⟩ hd hp (k _ rfl)
  rw [eTp]
  have hv : intoV (e_ad E) (nI (6 + 4 * t)) = .ref (e_ad E (6 + 4 * t)) := by
    unfold intoV
    rw [if_neg (nI_ne0 (by omega) (by omega)), nI_clamp (by omega)]
  simp [fTp, g_up, g_set, upd, hv]
theorem FN_6_23 : gFn SC RX6 RX10 23 7 RX7 TX7 4 3 := ⟨rfl, by decide, inX7, fun z A U H h => h.2.2.2.2.2.2 _ (gNB_of w_74 rfl), rfl⟩
theorem X6_23g {E : gE} {cc : ByteArray} {nL : Nat} {ret : Option FieldType} {d : Nat} {Q : State → Prop} {pc : Nat} {L : List (Option Value)} {st : List Value} {σ : gS} (C : gCx SC E RX6 cc nL ret d) {t : Nat} (ht : t < 6) (pc' : Nat) (hd : decode cc pc = .ok (.getfield 23, 3)) (hp : pc + 3 = pc') (k : ∀ x : Int32, x = σ (6 + 4 * t) 3 → GW SC E Q pc' L (.int x :: st) σ) : GW SC E Q pc L (.ref (e_ad E (6 + 4 * t)) :: st) σ := G_getN (v := .int (σ (6 + 4 * t) 3)) C pc' FN_6_23 (lT0 ht) (eTx _ _ _ ht) rfl hd hp (k _ rfl)
theorem X6_23p {E : gE} {cc : ByteArray} {nL : Nat} {ret : Option FieldType} {d : Nat} {Q : State → Prop} {pc : Nat} {L : List (Option Value)} {st : List Value} {σ : gS} (C : gCx SC E RX6 cc nL ret d) {t : Nat} (ht : t < 6) (pc' : Nat) {x : Int32} (hd : decode cc pc = .ok (.putfield 23, 3)) (hp : pc + 3 = pc') (k : ∀ σ', σ' = g_up σ (6 + 4 * t) 3 x → GW SC E Q pc' L st σ') : GW SC E Q pc L (.int x :: .ref (e_ad E (6 + 4 * t)) :: st) σ := G_putiN (fs := fTx (6 + 4 * t) (e_ad E)) C pc' FN_6_23 FP_7_3 (lT0 ht) (by rw [nT0 ht]; decide) (fun σ => eTx _ _ σ ht) (by simp [fTx, g_up, g_set, upd]) (by simp [fTx]) hd hp k
theorem FL_6_26 : gFl RX6 26 6 RX6 TX6 7 4 := ⟨rfl, by decide, inX6, w_45, rfl⟩
theorem X6_26g {E : gE} {cc : ByteArray} {nL : Nat} {ret : Option FieldType} {d : Nat} {Q : State → Prop} {pc : Nat} {L : List (Option Value)} {st : List Value} {σ : gS} (C : gCx SC E RX6 cc nL ret d) (pc' : Nat) (hd : decode cc pc = .ok (.getfield 26, 3)) (hp : pc + 3 = pc') (k : ∀ x : Int32, x = σ 3 4 → GW SC E Q pc' L (.int x :: st) σ) : GW SC E Q pc L (.ref (e_ad E 3) :: st) σ := G_get (v := .int (σ 3 4)) C pc' FL_6_26 (by decide) (eTp _ _ _) rfl hd hp (k _ rfl)
theorem X6_26p {E : gE} {cc : ByteArray} {nL : Nat} {ret : Option FieldType} {d : Nat} {Q : State → Prop} {pc : Nat} {L : List (Option Value)} {st : List Value} {σ : gS} (C : gCx SC E RX6 cc nL ret d) (pc' : Nat) {x : Int32} (hd : decode cc pc = .ok (.putfield 26, 3)) (hp : pc + 3 = pc') (k : ∀ σ', σ' = g_up σ 3 4 x → GW SC E Q pc' L st σ') : GW SC E Q pc L (.int x :: .ref (e_ad E 3) :: st) σ := G_puti (fs := fTp (e_ad E)) C pc' FL_6_26 FP_6_4 (by decide) (by decide) (fun σ => eTp _ _ σ) (by simp [fTp, g_up, g_set, upd]) (by simp [fTp]) hd hp k
theorem FL_6_32 : gFl RX6 32 6 RX6 TX6 7 2 := ⟨rfl, by decide, inX6, w_43, rfl⟩
theorem X6_32g {E : gE} {cc : ByteArray} {nL : Nat} {ret : Option FieldType} {d : Nat} {Q : State → Prop} {pc : Nat} {L : List (Option Value)} {st : List Value} {σ : gS} (C : gCx SC E RX6 cc nL ret d) (pc' : Nat) (hd : decode cc pc = .ok (.getfield 32, 3)) (hp : pc + 3 = pc') (k : ∀ x : Int32, x = σ 3 2 → GW SC E Q pc' L (.int x :: st) σ) : GW SC E Q pc L (.ref (e_ad E 3) :: st) σ := G_get (v := .int (σ 3 2)) C pc' FL_6_32 (by decide) (eTp _ _ _) rfl hd hp (k _ rfl)
theorem X6_32p {E : gE} {cc : ByteArray} {nL : Nat} {ret : Option FieldType} {d : Nat} {Q : State → Prop} {pc : Nat} {L : List (Option Value)} {st : List Value} {σ : gS} (C : gCx SC E RX6 cc nL ret d) (pc' : Nat) {x : Int32} (hd : decode cc pc = .ok (.putfield 32, 3)) (hp : pc + 3 = pc') (k : ∀ σ', σ' = g_up σ 3 2 x → GW SC E Q pc' L st σ') : GW SC E Q pc L (.int x :: .ref (e_ad E 3) :: st) σ := G_puti (fs := fTp (e_ad E)) C pc' FL_6_32 FP_6_2 (by decide) (by decide) (fun σ => eTp _ _ σ) (by simp [fTp, g_up, g_set, upd]) (by simp [fTp]) hd hp k
theorem FL_6_35 : gFl RX6 35 6 RX6 TX6 7 3 := ⟨rfl, by decide, inX6, w_44, rfl⟩
theorem X6_35g {E : gE} {cc : ByteArray} {nL : Nat} {ret : Option FieldType} {d : Nat} {Q : State → Prop} {pc : Nat} {L : List (Option Value)} {st : List Value} {σ : gS} (C : gCx SC E RX6 cc nL ret d) (pc' : Nat) (hd : decode cc pc = .ok (.getfield 35, 3)) (hp : pc + 3 = pc') (k : ∀ x : Int32, x = σ 3 3 → GW SC E Q pc' L (.int x :: st) σ) : GW SC E Q pc L (.ref (e_ad E 3) :: st) σ := G_get (v := .int (σ 3 3)) C pc' FL_6_35 (by decide) (eTp _ _ _) rfl hd hp (k _ rfl)
theorem X6_35p {E : gE} {cc : ByteArray} {nL : Nat} {ret : Option FieldType} {d : Nat} {Q : State → Prop} {pc : Nat} {L : List (Option Value)} {st : List Value} {σ : gS} (C : gCx SC E RX6 cc nL ret d) (pc' : Nat) {x : Int32} (hd : decode cc pc = .ok (.putfield 35, 3)) (hp : pc + 3 = pc') (k : ∀ σ', σ' = g_up σ 3 3 x → GW SC E Q pc' L st σ') : GW SC E Q pc L (.int x :: .ref (e_ad E 3) :: st) σ := G_puti (fs := fTp (e_ad E)) C pc' FL_6_35 FP_6_3 (by decide) (by decide) (fun σ => eTp _ _ σ) (by simp [fTp, g_up, g_set, upd]) (by simp [fTp]) hd hp k
theorem FN_6_42 : gFn SC RX6 RX10 42 7 RX7 TX7 4 1 := ⟨rfl, by decide, inX7, fun z A U H h => h.2.2.2.2.2.2 _ (gNB_of w_71 rfl), rfl⟩
theorem X6_42g {E : gE} {cc : ByteArray} {nL : Nat} {ret : Option FieldType} {d : Nat} {Q : State → Prop} {pc : Nat} {L : List (Option Value)} {st : List Value} {σ : gS} (C : gCx SC E RX6 cc nL ret d) {t : Nat} (ht : t < 6) (pc' : Nat) (hd : decode cc pc = .ok (.getfield 42, 3)) (hp : pc + 3 = pc') (k : GW SC E Q pc' L (.ref (e_ad E (6 + 4 * t + 2)) :: st) σ) : GW SC E Q pc L (.ref (e_ad E (6 + 4 * t)) :: st) σ := G_getN (v := .ref (e_ad E (6 + 4 * t + 2))) C pc' FN_6_42 (lT0 ht) (eTx _ _ _ ht) rfl hd hp k
theorem FL_6_68 : gFl RX6 68 6 RX6 TX6 7 5 := ⟨rfl, by decide, inX6, w_46, rfl⟩
theorem X6_68g {E : gE} {cc : ByteArray} {nL : Nat} {ret : Option FieldType} {d : Nat} {Q : State → Prop} {pc : Nat} {L : List (Option Value)} {st : List Value} {σ : gS} (C : gCx SC E RX6 cc nL ret d) (pc' : Nat) (hd : decode cc pc = .ok (.getfield 68, 3)) (hp : pc + 3 = pc') (k : ∀ x : Int32, x = σ 3 5 → GW SC E Q pc' L (.int x :: st) σ) : GW SC E Q pc L (.ref (e_ad E 3) :: st) σ := G_get (v := .int (σ 3 5)) C pc' FL_6_68 (by decide) (eTp _ _ _) rfl hd hp (k _ rfl)
theorem X6_68p {E : gE} {cc : ByteArray} {nL : Nat} {ret : Option FieldType} {d : Nat} {Q : State → Prop} {pc : Nat} {L : List (Option Value)} {st : List Value} {σ : gS} (C : gCx SC E RX6 cc nL ret d) (pc' : Nat) {x : Int32} (hd : decode cc pc = .ok (.putfield 68, 3)) (hp : pc + 3 = pc') (k : ∀ σ', σ' = g_up σ 3 5 x → GW SC E Q pc' L st σ') : GW SC E Q pc L (.int x :: .ref (e_ad E 3) :: st) σ := G_puti (fs := fTp (e_ad E)) C pc' FL_6_68 FP_6_5 (by decide) (by decide) (fun σ => eTp _ _ σ) (by simp [fTp, g_up, g_set, upd]) (by simp [fTp]) hd hp k
theorem FL_7_9 : gFl RX7 9 7 RX7 TX7 4 0 := ⟨rfl, by decide, inX7, w_69, rfl⟩
theorem X7_9g {E : gE} {cc : ByteArray} {nL : Nat} {ret : Option FieldType} {d : Nat} {Q : State → Prop} {pc : Nat} {L : List (Option Value)} {st : List Value} {σ : gS} (C : gCx SC E RX7 cc nL ret d) {t : Nat} (ht : t < 6) (pc' : Nat) (hd : decode cc pc = .ok (.getfield 9, 3)) (hp : pc + 3 = pc') (k : GW SC E Q pc' L (.ref (e_ad E (6 + 4 * t + 1)) :: st) σ) : GW SC E Q pc L (.ref (e_ad E (6 + 4 * t)) :: st) σ := G_get (v := .ref (e_ad E (6 + 4 * t + 1))) C pc' FL_7_9 (lT0 ht) (eTx _ _ _ ht) rfl hd hp k
theorem FL_7_15 : gFl RX7 15 7 RX7 TX7 4 1 := ⟨rfl, by decide, inX7, w_70, rfl⟩
theorem X7_15g {E : gE} {cc : ByteArray} {nL : Nat} {ret : Option FieldType} {d : Nat} {Q : State → Prop} {pc : Nat} {L : List (Option Value)} {st : List Value} {σ : gS} (C : gCx SC E RX7 cc nL ret d) {t : Nat} (ht : t < 6) (pc' : Nat) (hd : decode cc pc = .ok (.getfield 15, 3)) (hp : pc + 3 = pc') (k : GW SC E Q pc' L (.ref (e_ad E (6 + 4 * t + 2)) :: st) σ) : GW SC E Q pc L (.ref (e_ad E (6 + 4 * t)) :: st) σ := G_get (v := .ref (e_ad E (6 + 4 * t + 2))) C pc' FL_7_15 (lT0 ht) (eTx _ _ _ ht) rfl hd hp k
theorem FL_7_18 : gFl RX7 18 7 RX7 TX7 4 2 := ⟨rfl, by decide, inX7, w_72, rfl⟩
theorem X7_18g {E : gE} {cc : ByteArray} {nL : Nat} {ret : Option FieldType} {d : Nat} {Q : State → Prop} {pc : Nat} {L : List (Option Value)} {st : List Value} {σ : gS} (C : gCx SC E RX7 cc nL ret d) {t : Nat} (ht : t < 6) (pc' : Nat) (hd : decode cc pc = .ok (.getfield 18, 3)) (hp : pc + 3 = pc') (k : GW SC E Q pc' L (.ref (e_ad E (6 + 4 * t + 3)) :: st) σ) : GW SC E Q pc L (.ref (e_ad E (6 + 4 * t)) :: st) σ := G_get (v := .ref (e_ad E (6 + 4 * t + 3))) C pc' FL_7_18 (lT0 ht) (eTx _ _ _ ht) rfl hd hp k
theorem FL_7_21 : gFl RX7 21 7 RX7 TX7 4 3 := ⟨rfl, by decide, inX7, w_73, rfl⟩
theorem X7_21g {E : gE} {cc : ByteArray} {nL : Nat} {ret : Option FieldType} {d : Nat} {Q : State → Prop} {pc : Nat} {L : List (Option Value)} {st : List Value} {σ : gS} (C : gCx SC E RX7 cc nL ret d) {t : Nat} (ht : t < 6) (pc' : Nat) (hd : decode cc pc = .ok (.getfield 21, 3)) (hp : pc + 3 = pc') (k : ∀ x : Int32, x = σ (6 + 4 * t) 3 → GW SC E Q pc' L (.int x :: st) σ) : GW SC E Q pc L (.ref (e_ad E (6 + 4 * t)) :: st) σ := G_get (v := .int (σ (6 + 4 * t) 3)) C pc' FL_7_21 (lT0 ht) (eTx _ _ _ ht) rfl hd hp (k _ rfl)
theorem X7_21p {E : gE} {cc : ByteArray} {nL : Nat} {ret : Option FieldType} {d : Nat} {Q : State → Prop} {pc : Nat} {L : List (Option Value)} {st : List Value} {σ : gS} (C : gCx SC E RX7 cc nL ret d) {t : Nat} (ht : t < 6) (pc' : Nat) {x : Int32} (hd : decode cc pc = .ok (.putfield 21, 3)) (hp : pc + 3 = pc') (k : ∀ σ', σ' = g_up σ (6 + 4 * t) 3 x → GW SC E Q pc' L st σ') : GW SC E Q pc L (.int x :: .ref (e_ad E (6 + 4 * t)) :: st) σ := G_puti (fs := fTx (6 + 4 * t) (e_ad E)) C pc' FL_7_21 FP_7_3 (lT0 ht) (by rw [nT0 ht]; decide) (fun σ => eTx _ _ σ ht) (by simp [fTx, g_up, g_set, upd]) (by simp [fTx]) hd hp k
theorem FL_9_9 : gFl RX9 9 9 RX9 TX9 15 4 := ⟨rfl, by decide, inX9, w_157, rfl⟩
theorem X9_9g {E : gE} {cc : ByteArray} {nL : Nat} {ret : Option FieldType} {d : Nat} {Q : State → Prop} {pc : Nat} {L : List (Option Value)} {st : List Value} {σ : gS} (C : gCx SC E RX9 cc nL ret d) {w : Nat} (hw : isW w) (pc' : Nat) (hd : decode cc pc = .ok (.getfield 9, 3)) (hp : pc + 3 = pc') (k : ∀ x : Int32, x = σ w 4 → GW SC E Q pc' L (.int x :: st) σ) : GW SC E Q pc L (.ref (e_ad E w) :: st) σ := G_get (v := .int (σ w 4)) C pc' FL_9_9 (lW0 hw) (eW _ _ _ hw) rfl hd hp (k _ rfl)
theorem X9_9p {E : gE} {cc : ByteArray} {nL : Nat} {ret : Option FieldType} {d : Nat} {Q : State → Prop} {pc : Nat} {L : List (Option Value)} {st : List Value} {σ : gS} (C : gCx SC E RX9 cc nL ret d) {w : Nat} (hw : isW w) (pc' : Nat) {x : Int32} (hd : decode cc pc = .ok (.putfield 9, 3)) (hp : pc + 3 = pc') (k : ∀ σ', σ' = g_up σ w 4 x → GW SC E Q pc' L st σ') : GW SC E Q pc L (.int x :: .ref (e_ad E w) :: st) σ := G_puti (fs := fW w (e_ad E)) C pc' FL_9_9 FP_9_4 (lW0 hw) (by rw [nW0 hw]; decide) (fun σ => eW _ _ σ hw) (by simp [fW, g_up, g_set, upd]) (by simp [fW]) hd hp k
theorem FL_9_15 : gFl RX9 15 9 RX9 TX9 15 7 := ⟨rfl, by decide, inX9, w_163, rfl⟩
theorem X9_15g {E : gE} {cc : ByteArray} {nL : Nat} {ret : Option FieldType} {d : Nat} {Q : State → Prop} {pc : Nat} {L : List (Option Value)} {st : List Value} {σ : gS} (C : gCx SC E RX9 cc nL ret d) {w : Nat} (hw : isW w) (pc' : Nat) (hd : decode cc pc = .ok (.getfield 15, 3)) (hp : pc + 3 = pc') (k : GW SC E Q pc' L (.ref (e_ad E (w + 1)) :: st) σ) : GW SC E Q pc L (.ref (e_ad E w) :: st) σ := G_get (v := .ref (e_ad E (w + 1))) C pc' FL_9_15 (lW0 hw) (eW _ _ _ hw) rfl hd hp k
theorem FL_9_19 : gFl RX9 19 9 RX9 TX9 15 8 := ⟨rfl, by decide, inX9, w_165, rfl⟩
theorem X9_19g {E : gE} {cc : ByteArray} {nL : Nat} {ret : Option FieldType} {d : Nat} {Q : State → Prop} {pc : Nat} {L : List (Option Value)} {st : List Value} {σ : gS} (C : gCx SC E RX9 cc nL ret d) {w : Nat} (hw : isW w) (pc' : Nat) (hd : decode cc pc = .ok (.getfield 19, 3)) (hp : pc + 3 = pc') (k : GW SC E Q pc' L (.ref (e_ad E (w + 2)) :: st) σ) : GW SC E Q pc L (.ref (e_ad E w) :: st) σ := G_get (v := .ref (e_ad E (w + 2))) C pc' FL_9_19 (lW0 hw) (eW _ _ _ hw) rfl hd hp k
theorem FL_9_22 : gFl RX9 22 9 RX9 TX9 15 9 := ⟨rfl, by decide, inX9, w_167, rfl⟩
theorem X9_22g {E : gE} {cc : ByteArray} {nL : Nat} {ret : Option FieldType} {d : Nat} {Q : State → Prop} {pc : Nat} {L : List (Option Value)} {st : List Value} {σ : gS} (C : gCx SC E RX9 cc nL ret d) {w : Nat} (hw : isW w) (pc' : Nat) (hd : decode cc pc = .ok (.getfield 22, 3)) (hp : pc + 3 = pc') (k : GW SC E Q pc' L (.ref (e_ad E (w + 3)) :: st) σ) : GW SC E Q pc L (.ref (e_ad E w) :: st) σ := G_get (v := .ref (e_ad E (w + 3))) C pc' FL_9_22 (lW0 hw) (eW _ _ _ hw) rfl hd hp k
theorem FL_9_25 : gFl RX9 25 9 RX9 TX9 15 10 := ⟨rfl, by decide, inX9, w_169, rfl⟩
theorem X9_25g {E : gE} {cc : ByteArray} {nL : Nat} {ret : Option FieldType} {d : Nat} {Q : State → Prop} {pc : Nat} {L : List (Option Value)} {st : List Value} {σ : gS} (C : gCx SC E RX9 cc nL ret d) {w : Nat} (hw : isW w) (pc' : Nat) (hd : decode cc pc = .ok (.getfield 25, 3)) (hp : pc + 3 = pc') (k : GW SC E Q pc' L (.ref (e_ad E (w + 4)) :: st) σ) : GW SC E Q pc L (.ref (e_ad E w) :: st) σ := G_get (v := .ref (e_ad E (w + 4))) C pc' FL_9_25 (lW0 hw) (eW _ _ _ hw) rfl hd hp k
theorem FL_9_28 : gFl RX9 28 9 RX9 TX9 15 11 := ⟨rfl, by decide, inX9, w_171, rfl⟩
theorem X9_28g {E : gE} {cc : ByteArray} {nL : Nat} {ret : Option FieldType} {d : Nat} {Q : State → Prop} {pc : Nat} {L : List (Option Value)} {st : List Value} {σ : gS} (C : gCx SC E RX9 cc nL ret d) {w : Nat} (hw : isW w) (pc' : Nat) (hd : decode cc pc = .ok (.getfield 28, 3)) (hp : pc + 3 = pc') (k : GW SC E Q pc' L (.ref (e_ad E (w + 5)) :: st) σ) : GW SC E Q pc L (.ref (e_ad E w) :: st) σ := G_get (v := .ref (e_ad E (w + 5))) C pc' FL_9_28 (lW0 hw) (eW _ _ _ hw) rfl hd hp k
theorem FL_9_31 : gFl RX9 31 9 RX9 TX9 15 12 := ⟨rfl, by decide, inX9, w_173, rfl⟩
theorem X9_31g {E : gE} {cc : ByteArray} {nL : Nat} {ret : Option FieldType} {d : Nat} {Q : State → Prop} {pc : Nat} {L : List (Option Value)} {st : List Value} {σ : gS} (C : gCx SC E RX9 cc nL ret d) {w : Nat} (hw : isW w) (pc' : Nat) (hd : decode cc pc = .ok (.getfield 31, 3)) (hp : pc + 3 = pc') (k : GW SC E Q pc' L (.ref (e_ad E (w + 6)) :: st) σ) : GW SC E Q pc L (.ref (e_ad E w) :: st) σ := G_get (v := .ref (e_ad E (w + 6))) C pc' FL_9_31 (lW0 hw) (eW _ _ _ hw) rfl hd hp k
theorem FL_9_34 : gFl RX9 34 9 RX9 TX9 15 13 := ⟨rfl, by decide, inX9, w_175, rfl⟩
theorem X9_34g {E : gE} {cc : ByteArray} {nL : Nat} {ret : Option FieldType} {d : Nat} {Q : State → Prop} {pc : Nat} {L : List (Option Value)} {st : List Value} {σ : gS} (C : gCx SC E RX9 cc nL ret d) {w : Nat} (hw : isW w) (pc' : Nat) (hd : decode cc pc = .ok (.getfield 34, 3)) (hp : pc + 3 = pc') (k : GW SC E Q pc' L (.ref (e_ad E (w + 7)) :: st) σ) : GW SC E Q pc L (.ref (e_ad E w) :: st) σ := G_get (v := .ref (e_ad E (w + 7))) C pc' FL_9_34 (lW0 hw) (eW _ _ _ hw) rfl hd hp k
theorem FL_9_37 : gFl RX9 37 9 RX9 TX9 15 14 := ⟨rfl, by decide, inX9, w_177, rfl⟩
theorem X9_37g {E : gE} {cc : ByteArray} {nL : Nat} {ret : Option FieldType} {d : Nat} {Q : State → Prop} {pc : Nat} {L : List (Option Value)} {st : List Value} {σ : gS} (C : gCx SC E RX9 cc nL ret d) {w : Nat} (hw : isW w) (pc' : Nat) (hd : decode cc pc = .ok (.getfield 37, 3)) (hp : pc + 3 = pc') (k : GW SC E Q pc' L (.ref (e_ad E (w + 8)) :: st) σ) : GW SC E Q pc L (.ref (e_ad E w) :: st) σ := G_get (v := .ref (e_ad E (w + 8))) C pc' FL_9_37 (lW0 hw) (eW _ _ _ hw) rfl hd hp k
theorem FL_9_40 : gFl RX9 40 9 RX9 TX9 15 0 := ⟨rfl, by decide, inX9, w_151, rfl⟩
theorem X9_40g {E : gE} {cc : ByteArray} {nL : Nat} {ret : Option FieldType} {d : Nat} {Q : State → Prop} {pc : Nat} {L : List (Option Value)} {st : List Value} {σ : gS} (C : gCx SC E RX9 cc nL ret d) {w : Nat} (hw : isW w) (pc' : Nat) (hd : decode cc pc = .ok (.getfield 40, 3)) (hp : pc + 3 = pc') (k : GW SC E Q pc' L (.ref (e_ad E 1) :: st) σ) : GW SC E Q pc L (.ref (e_ad E w) :: st) σ := G_get (v := .ref (e_ad E 1)) C pc' FL_9_40 (lW0 hw) (eW _ _ _ hw) rfl hd hp k
theorem FL_9_44 : gFl RX9 44 9 RX9 TX9 15 1 := ⟨rfl, by decide, inX9, w_152, rfl⟩
theorem X9_44g {E : gE} {cc : ByteArray} {nL : Nat} {ret : Option FieldType} {d : Nat} {Q : State → Prop} {pc : Nat} {L : List (Option Value)} {st : List Value} {σ : gS} (C : gCx SC E RX9 cc nL ret d) {w : Nat} (hw : isW w) (pc' : Nat) (hd : decode cc pc = .ok (.getfield 44, 3)) (hp : pc + 3 = pc') (k : GW SC E Q pc' L (.ref (e_ad E 38) :: st) σ) : GW SC E Q pc L (.ref (e_ad E w) :: st) σ := G_get (v := .ref (e_ad E 38)) C pc' FL_9_44 (lW0 hw) (eW _ _ _ hw) rfl hd hp k
theorem FL_9_48 : gFl RX9 48 9 RX9 TX9 15 2 := ⟨rfl, by decide, inX9, w_153, rfl⟩
theorem X9_48g {E : gE} {cc : ByteArray} {nL : Nat} {ret : Option FieldType} {d : Nat} {Q : State → Prop} {pc : Nat} {L : List (Option Value)} {st : List Value} {σ : gS} (C : gCx SC E RX9 cc nL ret d) {w : Nat} (hw : isW w) (pc' : Nat) (hd : decode cc pc = .ok (.getfield 48, 3)) (hp : pc + 3 = pc') (k : ∀ x : Int32, x = σ w 2 → GW SC E Q pc' L (.int x :: st) σ) : GW SC E Q pc L (.ref (e_ad E w) :: st) σ := G_get (v := .int (σ w 2)) C pc' FL_9_48 (lW0 hw) (eW _ _ _ hw) rfl hd hp (k _ rfl)
theorem X9_48p {E : gE} {cc : ByteArray} {nL : Nat} {ret : Option FieldType} {d : Nat} {Q : State → Prop} {pc : Nat} {L : List (Option Value)} {st : List Value} {σ : gS} (C : gCx SC E RX9 cc nL ret d) {w : Nat} (hw : isW w) (pc' : Nat) {x : Int32} (hd : decode cc pc = .ok (.putfield 48, 3)) (hp : pc + 3 = pc') (k : ∀ σ', σ' = g_up σ w 2 x → GW SC E Q pc' L st σ') : GW SC E Q pc L (.int x :: .ref (e_ad E w) :: st) σ := G_puti (fs := fW w (e_ad E)) C pc' FL_9_48 FP_9_2 (lW0 hw) (by rw [nW0 hw]; decide) (fun σ => eW _ _ σ hw) (by simp [fW, g_up, g_set, upd]) (by simp [fW]) hd hp k
theorem FL_9_51 : gFl RX9 51 9 RX9 TX9 15 3 := ⟨rfl, by decide, inX9, w_155, rfl⟩
theorem X9_51g {E : gE} {cc : ByteArray} {nL : Nat} {ret : Option FieldType} {d : Nat} {Q : State → Prop} {pc : Nat} {L : List (Option Value)} {st : List Value} {σ : gS} (C : gCx SC E RX9 cc nL ret d) {w : Nat} (hw : isW w) (pc' : Nat) (hd : decode cc pc = .ok (.getfield 51, 3)) (hp : pc + 3 = pc') (k : ∀ x : Int32, x = σ w 3 → GW SC E Q pc' L (.int x :: st) σ) : GW SC E Q pc L (.ref (e_ad E w) :: st) σ := G_get (v := .int (σ w 3)) C pc' FL_9_51 (lW0 hw) (eW _ _ _ hw) rfl hd hp (k _ rfl)
theorem X9_51p {E : gE} {cc : ByteArray} {nL : Nat} {ret : Option FieldType} {d : Nat} {Q : State → Prop} {pc : Nat} {L : List (Option Value)} {st : List Value} {σ : gS} (C : gCx SC E RX9 cc nL ret d) {w : Nat} (hw : isW w) (pc' : Nat) {x : Int32} (hd : decode cc pc = .ok (.putfield 51, 3)) (hp : pc + 3 = pc') (k : ∀ σ', σ' = g_up σ w 3 x → GW SC E Q pc' L st σ') : GW SC E Q pc L (.int x :: .ref (e_ad E w) :: st) σ := G_puti (fs := fW w (e_ad E)) C pc' FL_9_51 FP_9_3 (lW0 hw) (by rw [nW0 hw]; decide) (fun σ => eW _ _ σ hw) (by simp [fW, g_up, g_set, upd]) (by simp [fW]) hd hp k
theorem FL_9_54 : gFl RX9 54 9 RX9 TX9 15 5 := ⟨rfl, by decide, inX9, w_159, rfl⟩
theorem X9_54g {E : gE} {cc : ByteArray} {nL : Nat} {ret : Option FieldType} {d : Nat} {Q : State → Prop} {pc : Nat} {L : List (Option Value)} {st : List Value} {σ : gS} (C : gCx SC E RX9 cc nL ret d) {w : Nat} (hw : isW w) (pc' : Nat) (hd : decode cc pc = .ok (.getfield 54, 3)) (hp : pc + 3 = pc') (k : ∀ x : Int32, x = σ w 5 → GW SC E Q pc' L (.int x :: st) σ) : GW SC E Q pc L (.ref (e_ad E w) :: st) σ := G_get (v := .int (σ w 5)) C pc' FL_9_54 (lW0 hw) (eW _ _ _ hw) rfl hd hp (k _ rfl)
theorem X9_54p {E : gE} {cc : ByteArray} {nL : Nat} {ret : Option FieldType} {d : Nat} {Q : State → Prop} {pc : Nat} {L : List (Option Value)} {st : List Value} {σ : gS} (C : gCx SC E RX9 cc nL ret d) {w : Nat} (hw : isW w) (pc' : Nat) {x : Int32} (hd : decode cc pc = .ok (.putfield 54, 3)) (hp : pc + 3 = pc') (k : ∀ σ', σ' = g_up σ w 5 x → GW SC E Q pc' L st σ') : GW SC E Q pc L (.int x :: .ref (e_ad E w) :: st) σ := G_puti (fs := fW w (e_ad E)) C pc' FL_9_54 FP_9_5 (lW0 hw) (by rw [nW0 hw]; decide) (fun σ => eW _ _ σ hw) (by simp [fW, g_up, g_set, upd]) (by simp [fW]) hd hp k
theorem FL_9_57 : gFl RX9 57 9 RX9 TX9 15 6 := ⟨rfl, by decide, inX9, w_161, rfl⟩
theorem X9_57g {E : gE} {cc : ByteArray} {nL : Nat} {ret : Option FieldType} {d : Nat} {Q : State → Prop} {pc : Nat} {L : List (Option Value)} {st : List Value} {σ : gS} (C : gCx SC E RX9 cc nL ret d) {w : Nat} (hw : isW w) (pc' : Nat) (hd : decode cc pc = .ok (.getfield 57, 3)) (hp : pc + 3 = pc') (k : ∀ x : Int32, x = σ w 6 → GW SC E Q pc' L (.int x :: st) σ) : GW SC E Q pc L (.ref (e_ad E w) :: st) σ := G_get (v := .int (σ w 6)) C pc' FL_9_57 (lW0 hw) (eW _ _ _ hw) rfl hd hp (k _ rfl)
theorem X9_57p {E : gE} {cc : ByteArray} {nL : Nat} {ret : Option FieldType} {d : Nat} {Q : State → Prop} {pc : Nat} {L : List (Option Value)} {st : List Value} {σ : gS} (C : gCx SC E RX9 cc nL ret d) {w : Nat} (hw : isW w) (pc' : Nat) {x : Int32} (hd : decode cc pc = .ok (.putfield 57, 3)) (hp : pc + 3 = pc') (k : ∀ σ', σ' = g_up σ w 6 x → GW SC E Q pc' L st σ') : GW SC E Q pc L (.int x :: .ref (e_ad E w) :: st) σ := G_puti (fs := fW w (e_ad E)) C pc' FL_9_57 FP_9_6 (lW0 hw) (by rw [nW0 hw]; decide) (fun σ => eW _ _ σ hw) (by simp [fW, g_up, g_set, upd]) (by simp [fW]) hd hp k
theorem FL_11_7 : gFl RX11 7 11 RX11 TX11 32 1 := ⟨rfl, by decide, inX11, w_874, rfl⟩
theorem X11_7g {E : gE} {cc : ByteArray} {nL : Nat} {ret : Option FieldType} {d : Nat} {Q : State → Prop} {pc : Nat} {L : List (Option Value)} {st : List Value} {σ : gS} (C : gCx SM E RX11 cc nL ret d) (pc' : Nat) (hd : decode cc pc = .ok (.getfield 7, 3)) (hp : pc + 3 = pc') (k : GW SM E Q pc' L (.ref (e_ad E 1) :: st) σ) : GW SM E Q pc L (.ref (e_ad E 0) :: st) σ := G_get (v := .ref (e_ad E 1)) C pc' FL_11_7 (by decide) (eM _ _ _) rfl hd hp k
theorem FL_11_13 : gFl RX11 13 11 RX11 TX11 32 2 := ⟨rfl, by decide, inX11, w_875, rfl⟩
theorem X11_13g {E : gE} {cc : ByteArray} {nL : Nat} {ret : Option FieldType} {d : Nat} {Q : State → Prop} {pc : Nat} {L : List (Option Value)} {st : List Value} {σ : gS} (C : gCx SM E RX11 cc nL ret d) (pc' : Nat) (hd : decode cc pc = .ok (.getfield 13, 3)) (hp : pc + 3 = pc') (k : GW SM E Q pc' L (.ref (e_ad E 2) :: st) σ) : GW SM E Q pc L (.ref (e_ad E 0) :: st) σ := G_get (v := .ref (e_ad E 2)) C pc' FL_11_13 (by decide) (eM _ _ _) rfl hd hp k
theorem FL_11_16 : gFl RX11 16 11 RX11 TX11 32 3 := ⟨rfl, by decide, inX11, w_876, rfl⟩
theorem X11_16g {E : gE} {cc : ByteArray} {nL : Nat} {ret : Option FieldType} {d : Nat} {Q : State → Prop} {pc : Nat} {L : List (Option Value)} {st : List Value} {σ : gS} (C : gCx SM E RX11 cc nL ret d) (pc' : Nat) (hd : decode cc pc = .ok (.getfield 16, 3)) (hp : pc + 3 = pc') (k : GW SM E Q pc' L (.ref (e_ad E 3) :: st) σ) : GW SM E Q pc L (.ref (e_ad E 0) :: st) σ := G_get (v := .ref (e_ad E 3)) C pc' FL_11_16 (by decide) (eM _ _ _) rfl hd hp k
theorem FL_11_19 : gFl RX11 19 11 RX11 TX11 32 4 := ⟨rfl, by decide, inX11, w_877, rfl⟩
theorem X11_19g {E : gE} {cc : ByteArray} {nL : Nat} {ret : Option FieldType} {d : Nat} {Q : State → Prop} {pc : Nat} {L : List (Option Value)} {st : List Value} {σ : gS} (C : gCx SM E RX11 cc nL ret d) (pc' : Nat) (hd : decode cc pc = .ok (.getfield 19, 3)) (hp : pc + 3 = pc') (k : GW SM E Q pc' L (.ref (e_ad E 4) :: st) σ) : GW SM E Q pc L (.ref (e_ad E 0) :: st) σ := G_get (v := .ref (e_ad E 4)) C pc' FL_11_19 (by decide) (eM _ _ _) rfl hd hp k
theorem FL_11_22 : gFl RX11 22 11 RX11 TX11 32 5 := ⟨rfl, by decide, inX11, w_878, rfl⟩
theorem X11_22g {E : gE} {cc : ByteArray} {nL : Nat} {ret : Option FieldType} {d : Nat} {Q : State → Prop} {pc : Nat} {L : List (Option Value)} {st : List Value} {σ : gS} (C : gCx SM E RX11 cc nL ret d) (pc' : Nat) (hd : decode cc pc = .ok (.getfield 22, 3)) (hp : pc + 3 = pc') (k : GW SM E Q pc' L (.ref (e_ad E 5) :: st) σ) : GW SM E Q pc L (.ref (e_ad E 0) :: st) σ := G_get (v := .ref (e_ad E 5)) C pc' FL_11_22 (by decide) (eM _ _ _) rfl hd hp k
theorem FL_11_25 : gFl RX11 25 11 RX11 TX11 32 7 := ⟨rfl, by decide, inX11, w_880, rfl⟩
theorem X11_25g {E : gE} {cc : ByteArray} {nL : Nat} {ret : Option FieldType} {d : Nat} {Q : State → Prop} {pc : Nat} {L : List (Option Value)} {st : List Value} {σ : gS} (C : gCx SM E RX11 cc nL ret d) (pc' : Nat) (hd : decode cc pc = .ok (.getfield 25, 3)) (hp : pc + 3 = pc') (k : GW SM E Q pc' L (.ref (e_ad E 6) :: st) σ) : GW SM E Q pc L (.ref (e_ad E 0) :: st) σ := G_get (v := .ref (e_ad E 6)) C pc' FL_11_25 (by decide) (eM _ _ _) rfl hd hp k
theorem FL_11_28 : gFl RX11 28 11 RX11 TX11 32 8 := ⟨rfl, by decide, inX11, w_881, rfl⟩
theorem X11_28g {E : gE} {cc : ByteArray} {nL : Nat} {ret : Option FieldType} {d : Nat} {Q : State → Prop} {pc : Nat} {L : List (Option Value)} {st : List Value} {σ : gS} (C : gCx SM E RX11 cc nL ret d) (pc' : Nat) (hd : decode cc pc = .ok (.getfield 28, 3)) (hp : pc + 3 = pc') (k : GW SM E Q pc' L (.ref (e_ad E 7) :: st) σ) : GW SM E Q pc L (.ref (e_ad E 0) :: st) σ := G_get (v := .ref (e_ad E 7)) C pc' FL_11_28 (by decide) (eM _ _ _) rfl hd hp k
theorem FL_11_31 : gFl RX11 31 11 RX11 TX11 32 12 := ⟨rfl, by decide, inX11, w_885, rfl⟩
theorem X11_31g {E : gE} {cc : ByteArray} {nL : Nat} {ret : Option FieldType} {d : Nat} {Q : State → Prop} {pc : Nat} {L : List (Option Value)} {st : List Value} {σ : gS} (C : gCx SM E RX11 cc nL ret d) (pc' : Nat) (hd : decode cc pc = .ok (.getfield 31, 3)) (hp : pc + 3 = pc') (k : GW SM E Q pc' L (.ref (e_ad E 8) :: st) σ) : GW SM E Q pc L (.ref (e_ad E 0) :: st) σ := G_get (v := .ref (e_ad E 8)) C pc' FL_11_31 (by decide) (eM _ _ _) rfl hd hp k
theorem FL_11_34 : gFl RX11 34 11 RX11 TX11 32 13 := ⟨rfl, by decide, inX11, w_886, rfl⟩
theorem X11_34g {E : gE} {cc : ByteArray} {nL : Nat} {ret : Option FieldType} {d : Nat} {Q : State → Prop} {pc : Nat} {L : List (Option Value)} {st : List Value} {σ : gS} (C : gCx SM E RX11 cc nL ret d) (pc' : Nat) (hd : decode cc pc = .ok (.getfield 34, 3)) (hp : pc + 3 = pc') (k : GW SM E Q pc' L (.ref (e_ad E 9) :: st) σ) : GW SM E Q pc L (.ref (e_ad E 0) :: st) σ := G_get (v := .ref (e_ad E 9)) C pc' FL_11_34 (by decide) (eM _ _ _) rfl hd hp k
theorem FL_11_37 : gFl RX11 37 11 RX11 TX11 32 14 := ⟨rfl, by decide, inX11, w_887, rfl⟩
theorem X11_37g {E : gE} {cc : ByteArray} {nL : Nat} {ret : Option FieldType} {d : Nat} {Q : State → Prop} {pc : Nat} {L : List (Option Value)} {st : List Value} {σ : gS} (C : gCx SM E RX11 cc nL ret d) (pc' : Nat) (hd : decode cc pc = .ok (.getfield 37, 3)) (hp : pc + 3 = pc') (k : GW SM E Q pc' L (.ref (e_ad E 10) :: st) σ) : GW SM E Q pc L (.ref (e_ad E 0) :: st) σ := G_get (v := .ref (e_ad E 10)) C pc' FL_11_37 (by decide) (eM _ _ _) rfl hd hp k
theorem FL_11_40 : gFl RX11 40 11 RX11 TX11 32 15 := ⟨rfl, by decide, inX11, w_888, rfl⟩
theorem X11_40g {E : gE} {cc : ByteArray} {nL : Nat} {ret : Option FieldType} {d : Nat} {Q : State → Prop} {pc : Nat} {L : List (Option Value)} {st : List Value} {σ : gS} (C : gCx SM E RX11 cc nL ret d) (pc' : Nat) (hd : decode cc pc = .ok (.getfield 40, 3)) (hp : pc + 3 = pc') (k : GW SM E Q pc' L (.ref (e_ad E 11) :: st) σ) : GW SM E Q pc L (.ref (e_ad E 0) :: st) σ := G_get (v := .ref (e_ad E 11)) C pc' FL_11_40 (by decide) (eM _ _ _) rfl hd hp k
theorem FL_11_43 : gFl RX11 43 11 RX11 TX11 32 16 := ⟨rfl, by decide, inX11, w_889, rfl⟩
theorem X11_43g {E : gE} {cc : ByteArray} {nL : Nat} {ret : Option FieldType} {d : Nat} {Q : State → Prop} {pc : Nat} {L : List (Option Value)} {st : List Value} {σ : gS} (C : gCx SM E RX11 cc nL ret d) (pc' : Nat) (hd : decode cc pc = .ok (.getfield 43, 3)) (hp : pc + 3 = pc') (k : GW SM E Q pc' L (.ref (e_ad E 12) :: st) σ) : GW SM E Q pc L (.ref (e_ad E 0) :: st) σ := G_get (v := .ref (e_ad E 12)) C pc' FL_11_43 (by decide) (eM _ _ _) rfl hd hp k
theorem FL_11_46 : gFl RX11 46 11 RX11 TX11 32 17 := ⟨rfl, by decide, inX11, w_890, rfl⟩
theorem X11_46g {E : gE} {cc : ByteArray} {nL : Nat} {ret : Option FieldType} {d : Nat} {Q : State → Prop} {pc : Nat} {L : List (Option Value)} {st : List Value} {σ : gS} (C : gCx SM E RX11 cc nL ret d) (pc' : Nat) (hd : decode cc pc = .ok (.getfield 46, 3)) (hp : pc + 3 = pc') (k : GW SM E Q pc' L (.ref (e_ad E 13) :: st) σ) : GW SM E Q pc L (.ref (e_ad E 0) :: st) σ := G_get (v := .ref (e_ad E 13)) C pc' FL_11_46 (by decide) (eM _ _ _) rfl hd hp k
theorem FL_11_49 : gFl RX11 49 11 RX11 TX11 32 22 := ⟨rfl, by decide, inX11, w_895, rfl⟩
theorem X11_49g {E : gE} {cc : ByteArray} {nL : Nat} {ret : Option FieldType} {d : Nat} {Q : State → Prop} {pc : Nat} {L : List (Option Value)} {st : List Value} {σ : gS} (C : gCx SM E RX11 cc nL ret d) (pc' : Nat) (hd : decode cc pc = .ok (.getfield 49, 3)) (hp : pc + 3 = pc') (k : GW SM E Q pc' L (.ref (e_ad E 14) :: st) σ) : GW SM E Q pc L (.ref (e_ad E 0) :: st) σ := G_get (v := .ref (e_ad E 14)) C pc' FL_11_49 (by decide) (eM _ _ _) rfl hd hp k
theorem FL_11_52 : gFl RX11 52 11 RX11 TX11 32 23 := ⟨rfl, by decide, inX11, w_896, rfl⟩
theorem X11_52g {E : gE} {cc : ByteArray} {nL : Nat} {ret : Option FieldType} {d : Nat} {Q : State → Prop} {pc : Nat} {L : List (Option Value)} {st : List Value} {σ : gS} (C : gCx SM E RX11 cc nL ret d) (pc' : Nat) (hd : decode cc pc = .ok (.getfield 52, 3)) (hp : pc + 3 = pc') (k : GW SM E Q pc' L (.ref (e_ad E 15) :: st) σ) : GW SM E Q pc L (.ref (e_ad E 0) :: st) σ := G_get (v := .ref (e_ad E 15)) C pc' FL_11_52 (by decide) (eM _ _ _) rfl hd hp k
theorem FL_11_55 : gFl RX11 55 11 RX11 TX11 32 27 := ⟨rfl, by decide, inX11, w_900, rfl⟩
theorem X11_55g {E : gE} {cc : ByteArray} {nL : Nat} {ret : Option FieldType} {d : Nat} {Q : State → Prop} {pc : Nat} {L : List (Option Value)} {st : List Value} {σ : gS} (C : gCx SM E RX11 cc nL ret d) (pc' : Nat) (hd : decode cc pc = .ok (.getfield 55, 3)) (hp : pc + 3 = pc') (k : GW SM E Q pc' L (.ref (e_ad E 16) :: st) σ) : GW SM E Q pc L (.ref (e_ad E 0) :: st) σ := G_get (v := .ref (e_ad E 16)) C pc' FL_11_55 (by decide) (eM _ _ _) rfl hd hp k
theorem FL_11_58 : gFl RX11 58 11 RX11 TX11 32 28 := ⟨rfl, by decide, inX11, w_901, rfl⟩
theorem X11_58g {E : gE} {cc : ByteArray} {nL : Nat} {ret : Option FieldType} {d : Nat} {Q : State → Prop} {pc : Nat} {L : List (Option Value)} {st : List Value} {σ : gS} (C : gCx SM E RX11 cc nL ret d) (pc' : Nat) (hd : decode cc pc = .ok (.getfield 58, 3)) (hp : pc + 3 = pc') (k : GW SM E Q pc' L (.ref (e_ad E 17) :: st) σ) : GW SM E Q pc L (.ref (e_ad E 0) :: st) σ := G_get (v := .ref (e_ad E 17)) C pc' FL_11_58 (by decide) (eM _ _ _) rfl hd hp k
theorem FL_11_61 : gFl RX11 61 11 RX11 TX11 32 29 := ⟨rfl, by decide, inX11, w_902, rfl⟩
theorem X11_61g {E : gE} {cc : ByteArray} {nL : Nat} {ret : Option FieldType} {d : Nat} {Q : State → Prop} {pc : Nat} {L : List (Option Value)} {st : List Value} {σ : gS} (C : gCx SM E RX11 cc nL ret d) (pc' : Nat) (hd : decode cc pc = .ok (.getfield 61, 3)) (hp : pc + 3 = pc') (k : GW SM E Q pc' L (.ref (e_ad E 18) :: st) σ) : GW SM E Q pc L (.ref (e_ad E 0) :: st) σ := G_get (v := .ref (e_ad E 18)) C pc' FL_11_61 (by decide) (eM _ _ _) rfl hd hp k
theorem FL_11_64 : gFl RX11 64 11 RX11 TX11 32 30 := ⟨rfl, by decide, inX11, w_903, rfl⟩
theorem X11_64g {E : gE} {cc : ByteArray} {nL : Nat} {ret : Option FieldType} {d : Nat} {Q : State → Prop} {pc : Nat} {L : List (Option Value)} {st : List Value} {σ : gS} (C : gCx SM E RX11 cc nL ret d) (pc' : Nat) (hd : decode cc pc = .ok (.getfield 64, 3)) (hp : pc + 3 = pc') (k : GW SM E Q pc' L (.ref (e_ad E 19) :: st) σ) : GW SM E Q pc L (.ref (e_ad E 0) :: st) σ := G_get (v := .ref (e_ad E 19)) C pc' FL_11_64 (by decide) (eM _ _ _) rfl hd hp k
theorem FL_11_67 : gFl RX11 67 11 RX11 TX11 32 6 := ⟨rfl, by decide, inX11, w_879, rfl⟩
theorem X11_67g {E : gE} {cc : ByteArray} {nL : Nat} {ret : Option FieldType} {d : Nat} {Q : State → Prop} {pc : Nat} {L : List (Option Value)} {st : List Value} {σ : gS} (C : gCx SM E RX11 cc nL ret d) (pc' : Nat) (hd : decode cc pc = .ok (.getfield 67, 3)) (hp : pc + 3 = pc') (k : ∀ x : Int32, x = σ 0 6 → GW SM E Q pc' L (.int x :: st) σ) : GW SM E Q pc L (.ref (e_ad E 0) :: st) σ := G_get (v := .int (σ 0 6)) C pc' FL_11_67 (by decide) (eM _ _ _) rfl hd hp (k _ rfl)
theorem X11_67p {E : gE} {cc : ByteArray} {nL : Nat} {ret : Option FieldType} {d : Nat} {Q : State → Prop} {pc : Nat} {L : List (Option Value)} {st : List Value} {σ : gS} (C : gCx SM E RX11 cc nL ret d) (pc' : Nat) {x : Int32} (hd : decode cc pc = .ok (.putfield 67, 3)) (hp : pc + 3 = pc') (k : ∀ σ', σ' = g_up σ 0 6 x → GW SM E Q pc' L st σ') : GW SM E Q pc L (.int x :: .ref (e_ad E 0) :: st) σ := G_puti (fs := fM (e_ad E)) C pc' FL_11_67 FP_11_6 (by decide) (by decide) (fun σ => eM _ _ σ) (by simp [fM, g_up, g_set, upd]) (by simp [fM]) hd hp k
theorem FL_11_75 : gFl RX11 75 11 RX11 TX11 32 0 := ⟨rfl, by decide, inX11, w_873, rfl⟩
theorem X11_75g {E : gE} {cc : ByteArray} {nL : Nat} {ret : Option FieldType} {d : Nat} {Q : State → Prop} {pc : Nat} {L : List (Option Value)} {st : List Value} {σ : gS} (C : gCx SM E RX11 cc nL ret d) (pc' : Nat) (hd : decode cc pc = .ok (.getfield 75, 3)) (hp : pc + 3 = pc') (k : ∀ x : Int32, x = σ 0 0 → GW SM E Q pc' L (.int x :: st) σ) : GW SM E Q pc L (.ref (e_ad E 0) :: st) σ := G_get (v := .int (σ 0 0)) C pc' FL_11_75 (by decide) (eM _ _ _) rfl hd hp (k _ rfl)
theorem X11_75p {E : gE} {cc : ByteArray} {nL : Nat} {ret : Option FieldType} {d : Nat} {Q : State → Prop} {pc : Nat} {L : List (Option Value)} {st : List Value} {σ : gS} (C : gCx SM E RX11 cc nL ret d) (pc' : Nat) {x : Int32} (hd : decode cc pc = .ok (.putfield 75, 3)) (hp : pc + 3 = pc') (k : ∀ σ', σ' = g_up σ 0 0 x → GW SM E Q pc' L st σ') : GW SM E Q pc L (.int x :: .ref (e_ad E 0) :: st) σ := G_puti (fs := fM (e_ad E)) C pc' FL_11_75 FP_11_0 (by decide) (by decide) (fun σ => eM _ _ σ) (by simp [fM, g_up, g_set, upd]) (by simp [fM]) hd hp k
theorem FL_11_86 : gFl RX11 86 11 RX11 TX11 32 9 := ⟨rfl, by decide, inX11, w_882, rfl⟩
theorem X11_86g {E : gE} {cc : ByteArray} {nL : Nat} {ret : Option FieldType} {d : Nat} {Q : State → Prop} {pc : Nat} {L : List (Option Value)} {st : List Value} {σ : gS} (C : gCx SM E RX11 cc nL ret d) (pc' : Nat) (hd : decode cc pc = .ok (.getfield 86, 3)) (hp : pc + 3 = pc') (k : ∀ x : Int32, x = σ 0 9 → GW SM E Q pc' L (.int x :: st) σ) : GW SM E Q pc L (.ref (e_ad E 0) :: st) σ := G_get (v := .int (σ 0 9)) C pc' FL_11_86 (by decide) (eM _ _ _) rfl hd hp (k _ rfl)
theorem X11_86p {E : gE} {cc : ByteArray} {nL : Nat} {ret : Option FieldType} {d : Nat} {Q : State → Prop} {pc : Nat} {L : List (Option Value)} {st : List Value} {σ : gS} (C : gCx SM E RX11 cc nL ret d) (pc' : Nat) {x : Int32} (hd : decode cc pc = .ok (.putfield 86, 3)) (hp : pc + 3 = pc') (k : ∀ σ', σ' = g_up σ 0 9 x → GW SM E Q pc' L st σ') : GW SM E Q pc L (.int x :: .ref (e_ad E 0) :: st) σ := G_puti (fs := fM (e_ad E)) C pc' FL_11_86 FP_11_9 (by decide) (by decide) (fun σ => eM _ _ σ) (by simp [fM, g_up, g_set, upd]) (by simp [fM]) hd hp k
theorem FL_11_89 : gFl RX11 89 11 RX11 TX11 32 10 := ⟨rfl, by decide, inX11, w_883, rfl⟩
theorem X11_89g {E : gE} {cc : ByteArray} {nL : Nat} {ret : Option FieldType} {d : Nat} {Q : State → Prop} {pc : Nat} {L : List (Option Value)} {st : List Value} {σ : gS} (C : gCx SM E RX11 cc nL ret d) (pc' : Nat) (hd : decode cc pc = .ok (.getfield 89, 3)) (hp : pc + 3 = pc') (k : ∀ x : Int32, x = σ 0 10 → GW SM E Q pc' L (.int x :: st) σ) : GW SM E Q pc L (.ref (e_ad E 0) :: st) σ := G_get (v := .int (σ 0 10)) C pc' FL_11_89 (by decide) (eM _ _ _) rfl hd hp (k _ rfl)
theorem X11_89p {E : gE} {cc : ByteArray} {nL : Nat} {ret : Option FieldType} {d : Nat} {Q : State → Prop} {pc : Nat} {L : List (Option Value)} {st : List Value} {σ : gS} (C : gCx SM E RX11 cc nL ret d) (pc' : Nat) {x : Int32} (hd : decode cc pc = .ok (.putfield 89, 3)) (hp : pc + 3 = pc') (k : ∀ σ', σ' = g_up σ 0 10 x → GW SM E Q pc' L st σ') : GW SM E Q pc L (.int x :: .ref (e_ad E 0) :: st) σ := G_puti (fs := fM (e_ad E)) C pc' FL_11_89 FP_11_10 (by decide) (by decide) (fun σ => eM _ _ σ) (by simp [fM, g_up, g_set, upd]) (by simp [fM]) hd hp k
theorem FL_11_99 : gFl RX11 99 11 RX11 TX11 32 18 := ⟨rfl, by decide, inX11, w_891, rfl⟩
theorem X11_99g {E : gE} {cc : ByteArray} {nL : Nat} {ret : Option FieldType} {d : Nat} {Q : State → Prop} {pc : Nat} {L : List (Option Value)} {st : List Value} {σ : gS} (C : gCx SM E RX11 cc nL ret d) (pc' : Nat) (hd : decode cc pc = .ok (.getfield 99, 3)) (hp : pc + 3 = pc') (k : ∀ x : Int32, x = σ 0 18 → GW SM E Q pc' L (.int x :: st) σ) : GW SM E Q pc L (.ref (e_ad E 0) :: st) σ := G_get (v := .int (σ 0 18)) C pc' FL_11_99 (by decide) (eM _ _ _) rfl hd hp (k _ rfl)
theorem X11_99p {E : gE} {cc : ByteArray} {nL : Nat} {ret : Option FieldType} {d : Nat} {Q : State → Prop} {pc : Nat} {L : List (Option Value)} {st : List Value} {σ : gS} (C : gCx SM E RX11 cc nL ret d) (pc' : Nat) {x : Int32} (hd : decode cc pc = .ok (.putfield 99, 3)) (hp : pc + 3 = pc') (k : ∀ σ', σ' = g_up σ 0 18 x → GW SM E Q pc' L st σ') : GW SM E Q pc L (.int x :: .ref (e_ad E 0) :: st) σ := G_puti (fs := fM (e_ad E)) C pc' FL_11_99 FP_11_18 (by decide) (by decide) (fun σ => eM _ _ σ) (by simp [fM, g_up, g_set, upd]) (by simp [fM]) hd hp k
theorem FL_11_102 : gFl RX11 102 11 RX11 TX11 32 19 := ⟨rfl, by decide, inX11, w_892, rfl⟩
theorem X11_102g {E : gE} {cc : ByteArray} {nL : Nat} {ret : Option FieldType} {d : Nat} {Q : State → Prop} {pc : Nat} {L : List (Option Value)} {st : List Value} {σ : gS} (C : gCx SM E RX11 cc nL ret d) (pc' : Nat) (hd : decode cc pc = .ok (.getfield 102, 3)) (hp : pc + 3 = pc') (k : ∀ x : Int32, x = σ 0 19 → GW SM E Q pc' L (.int x :: st) σ) : GW SM E Q pc L (.ref (e_ad E 0) :: st) σ := G_get (v := .int (σ 0 19)) C pc' FL_11_102 (by decide) (eM _ _ _) rfl hd hp (k _ rfl)
theorem X11_102p {E : gE} {cc : ByteArray} {nL : Nat} {ret : Option FieldType} {d : Nat} {Q : State → Prop} {pc : Nat} {L : List (Option Value)} {st : List Value} {σ : gS} (C : gCx SM E RX11 cc nL ret d) (pc' : Nat) {x : Int32} (hd : decode cc pc = .ok (.putfield 102, 3)) (hp : pc + 3 = pc') (k : ∀ σ', σ' = g_up σ 0 19 x → GW SM E Q pc' L st σ') : GW SM E Q pc L (.int x :: .ref (e_ad E 0) :: st) σ := G_puti (fs := fM (e_ad E)) C pc' FL_11_102 FP_11_19 (by decide) (by decide) (fun σ => eM _ _ σ) (by simp [fM, g_up, g_set, upd]) (by simp [fM]) hd hp k
theorem FL_11_105 : gFl RX11 105 11 RX11 TX11 32 20 := ⟨rfl, by decide, inX11, w_893, rfl⟩
theorem X11_105g {E : gE} {cc : ByteArray} {nL : Nat} {ret : Option FieldType} {d : Nat} {Q : State → Prop} {pc : Nat} {L : List (Option Value)} {st : List Value} {σ : gS} (C : gCx SM E RX11 cc nL ret d) (pc' : Nat) (hd : decode cc pc = .ok (.getfield 105, 3)) (hp : pc + 3 = pc') (k : ∀ x : Int32, x = σ 0 20 → GW SM E Q pc' L (.int x :: st) σ) : GW SM E Q pc L (.ref (e_ad E 0) :: st) σ := G_get (v := .int (σ 0 20)) C pc' FL_11_105 (by decide) (eM _ _ _) rfl hd hp (k _ rfl)
theorem X11_105p {E : gE} {cc : ByteArray} {nL : Nat} {ret : Option FieldType} {d : Nat} {Q : State → Prop} {pc : Nat} {L : List (Option Value)} {st : List Value} {σ : gS} (C : gCx SM E RX11 cc nL ret d) (pc' : Nat) {x : Int32} (hd : decode cc pc = .ok (.putfield 105, 3)) (hp : pc + 3 = pc') (k : ∀ σ', σ' = g_up σ 0 20 x → GW SM E Q pc' L st σ') : GW SM E Q pc L (.int x :: .ref (e_ad E 0) :: st) σ := G_puti (fs := fM (e_ad E)) C pc' FL_11_105 FP_11_20 (by decide) (by decide) (fun σ => eM _ _ σ) (by simp [fM, g_up, g_set, upd]) (by simp [fM]) hd hp k
theorem FL_11_108 : gFl RX11 108 11 RX11 TX11 32 21 := ⟨rfl, by decide, inX11, w_894, rfl⟩
theorem X11_108g {E : gE} {cc : ByteArray} {nL : Nat} {ret : Option FieldType} {d : Nat} {Q : State → Prop} {pc : Nat} {L : List (Option Value)} {st : List Value} {σ : gS} (C : gCx SM E RX11 cc nL ret d) (pc' : Nat) (hd : decode cc pc = .ok (.getfield 108, 3)) (hp : pc + 3 = pc') (k : ∀ x : Int32, x = σ 0 21 → GW SM E Q pc' L (.int x :: st) σ) : GW SM E Q pc L (.ref (e_ad E 0) :: st) σ := G_get (v := .int (σ 0 21)) C pc' FL_11_108 (by decide) (eM _ _ _) rfl hd hp (k _ rfl)
theorem X11_108p {E : gE} {cc : ByteArray} {nL : Nat} {ret : Option FieldType} {d : Nat} {Q : State → Prop} {pc : Nat} {L : List (Option Value)} {st : List Value} {σ : gS} (C : gCx SM E RX11 cc nL ret d) (pc' : Nat) {x : Int32} (hd : decode cc pc = .ok (.putfield 108, 3)) (hp : pc + 3 = pc') (k : ∀ σ', σ' = g_up σ 0 21 x → GW SM E Q pc' L st σ') : GW SM E Q pc L (.int x :: .ref (e_ad E 0) :: st) σ := G_puti (fs := fM (e_ad E)) C pc' FL_11_108 FP_11_21 (by decide) (by decide) (fun σ => eM _ _ σ) (by simp [fM, g_up, g_set, upd]) (by simp [fM]) hd hp k
theorem FL_11_115 : gFl RX11 115 11 RX11 TX11 32 26 := ⟨rfl, by decide, inX11, w_899, rfl⟩
theorem X11_115g {E : gE} {cc : ByteArray} {nL : Nat} {ret : Option FieldType} {d : Nat} {Q : State → Prop} {pc : Nat} {L : List (Option Value)} {st : List Value} {σ : gS} (C : gCx SM E RX11 cc nL ret d) (pc' : Nat) (hd : decode cc pc = .ok (.getfield 115, 3)) (hp : pc + 3 = pc') (k : ∀ x : Int32, x = σ 0 26 → GW SM E Q pc' L (.int x :: st) σ) : GW SM E Q pc L (.ref (e_ad E 0) :: st) σ := G_get (v := .int (σ 0 26)) C pc' FL_11_115 (by decide) (eM _ _ _) rfl hd hp (k _ rfl)
theorem X11_115p {E : gE} {cc : ByteArray} {nL : Nat} {ret : Option FieldType} {d : Nat} {Q : State → Prop} {pc : Nat} {L : List (Option Value)} {st : List Value} {σ : gS} (C : gCx SM E RX11 cc nL ret d) (pc' : Nat) {x : Int32} (hd : decode cc pc = .ok (.putfield 115, 3)) (hp : pc + 3 = pc') (k : ∀ σ', σ' = g_up σ 0 26 x → GW SM E Q pc' L st σ') : GW SM E Q pc L (.int x :: .ref (e_ad E 0) :: st) σ := G_puti (fs := fM (e_ad E)) C pc' FL_11_115 FP_11_26 (by decide) (by decide) (fun σ => eM _ _ σ) (by simp [fM, g_up, g_set, upd]) (by simp [fM]) hd hp k
theorem FL_11_118 : gFl RX11 118 11 RX11 TX11 32 24 := ⟨rfl, by decide, inX11, w_897, rfl⟩
theorem X11_118g {E : gE} {cc : ByteArray} {nL : Nat} {ret : Option FieldType} {d : Nat} {Q : State → Prop} {pc : Nat} {L : List (Option Value)} {st : List Value} {σ : gS} (C : gCx SM E RX11 cc nL ret d) (pc' : Nat) (hd : decode cc pc = .ok (.getfield 118, 3)) (hp : pc + 3 = pc') (k : ∀ x : Int32, x = σ 0 24 → GW SM E Q pc' L (.int x :: st) σ) : GW SM E Q pc L (.ref (e_ad E 0) :: st) σ := G_get (v := .int (σ 0 24)) C pc' FL_11_118 (by decide) (eM _ _ _) rfl hd hp (k _ rfl)
theorem X11_118p {E : gE} {cc : ByteArray} {nL : Nat} {ret : Option FieldType} {d : Nat} {Q : State → Prop} {pc : Nat} {L : List (Option Value)} {st : List Value} {σ : gS} (C : gCx SM E RX11 cc nL ret d) (pc' : Nat) {x : Int32} (hd : decode cc pc = .ok (.putfield 118, 3)) (hp : pc + 3 = pc') (k : ∀ σ', σ' = g_up σ 0 24 x → GW SM E Q pc' L st σ') : GW SM E Q pc L (.int x :: .ref (e_ad E 0) :: st) σ := G_puti (fs := fM (e_ad E)) C pc' FL_11_118 FP_11_24 (by decide) (by decide) (fun σ => eM _ _ σ) (by simp [fM, g_up, g_set, upd]) (by simp [fM]) hd hp k
theorem FL_11_124 : gFl RX11 124 11 RX11 TX11 32 25 := ⟨rfl, by decide, inX11, w_898, rfl⟩
theorem X11_124g {E : gE} {cc : ByteArray} {nL : Nat} {ret : Option FieldType} {d : Nat} {Q : State → Prop} {pc : Nat} {L : List (Option Value)} {st : List Value} {σ : gS} (C : gCx SM E RX11 cc nL ret d) (pc' : Nat) (hd : decode cc pc = .ok (.getfield 124, 3)) (hp : pc + 3 = pc') (k : ∀ x : Int32, x = σ 0 25 → GW SM E Q pc' L (.int x :: st) σ) : GW SM E Q pc L (.ref (e_ad E 0) :: st) σ := G_get (v := .int (σ 0 25)) C pc' FL_11_124 (by decide) (eM _ _ _) rfl hd hp (k _ rfl)
theorem X11_124p {E : gE} {cc : ByteArray} {nL : Nat} {ret : Option FieldType} {d : Nat} {Q : State → Prop} {pc : Nat} {L : List (Option Value)} {st : List Value} {σ : gS} (C : gCx SM E RX11 cc nL ret d) (pc' : Nat) {x : Int32} (hd : decode cc pc = .ok (.putfield 124, 3)) (hp : pc + 3 = pc') (k : ∀ σ', σ' = g_up σ 0 25 x → GW SM E Q pc' L st σ') : GW SM E Q pc L (.int x :: .ref (e_ad E 0) :: st) σ := G_puti (fs := fM (e_ad E)) C pc' FL_11_124 FP_11_25 (by decide) (by decide) (fun σ => eM _ _ σ) (by simp [fM, g_up, g_set, upd]) (by simp [fM]) hd hp k
theorem FL_11_259 : gFl RX11 259 11 RX11 TX11 32 31 := ⟨rfl, by decide, inX11, w_904, rfl⟩
theorem X11_259g {E : gE} {cc : ByteArray} {nL : Nat} {ret : Option FieldType} {d : Nat} {Q : State → Prop} {pc : Nat} {L : List (Option Value)} {st : List Value} {σ : gS} (C : gCx SM E RX11 cc nL ret d) (pc' : Nat) (hd : decode cc pc = .ok (.getfield 259, 3)) (hp : pc + 3 = pc') (k : ∀ x : Int32, x = σ 0 31 → GW SM E Q pc' L (.int x :: st) σ) : GW SM E Q pc L (.ref (e_ad E 0) :: st) σ := G_get (v := .int (σ 0 31)) C pc' FL_11_259 (by decide) (eM _ _ _) rfl hd hp (k _ rfl)
theorem X11_259p {E : gE} {cc : ByteArray} {nL : Nat} {ret : Option FieldType} {d : Nat} {Q : State → Prop} {pc : Nat} {L : List (Option Value)} {st : List Value} {σ : gS} (C : gCx SM E RX11 cc nL ret d) (pc' : Nat) {x : Int32} (hd : decode cc pc = .ok (.putfield 259, 3)) (hp : pc + 3 = pc') (k : ∀ σ', σ' = g_up σ 0 31 x → GW SM E Q pc' L st σ') : GW SM E Q pc L (.int x :: .ref (e_ad E 0) :: st) σ := G_puti (fs := fM (e_ad E)) C pc' FL_11_259 FP_11_31 (by decide) (by decide) (fun σ => eM _ _ σ) (by simp [fM, g_up, g_set, upd]) (by simp [fM]) hd hp k
theorem FL_11_266 : gFl RX11 266 11 RX11 TX11 32 11 := ⟨rfl, by decide, inX11, w_884, rfl⟩
theorem X11_266g {E : gE} {cc : ByteArray} {nL : Nat} {ret : Option FieldType} {d : Nat} {Q : State → Prop} {pc : Nat} {L : List (Option Value)} {st : List Value} {σ : gS} (C : gCx SM E RX11 cc nL ret d) (pc' : Nat) (hd : decode cc pc = .ok (.getfield 266, 3)) (hp : pc + 3 = pc') (k : ∀ x : Int32, x = σ 0 11 → GW SM E Q pc' L (.int x :: st) σ) : GW SM E Q pc L (.ref (e_ad E 0) :: st) σ := G_get (v := .int (σ 0 11)) C pc' FL_11_266 (by decide) (eM _ _ _) rfl hd hp (k _ rfl)
theorem X11_266p {E : gE} {cc : ByteArray} {nL : Nat} {ret : Option FieldType} {d : Nat} {Q : State → Prop} {pc : Nat} {L : List (Option Value)} {st : List Value} {σ : gS} (C : gCx SM E RX11 cc nL ret d) (pc' : Nat) {x : Int32} (hx : narrow .boolean (.int x) = .int x ∧ fits .boolean (.int x) = true) (hd : decode cc pc = .ok (.putfield 266, 3)) (hp : pc + 3 = pc') (k : ∀ σ', σ' = g_up σ 0 11 x → GW SM E Q pc' L st σ') : GW SM E Q pc L (.int x :: .ref (e_ad E 0) :: st) σ := G_putz (fs := fM (e_ad E)) C pc' FL_11_266 FP_11_11 hx (by decide) (by decide) (fun σ => eM _ _ σ) (by simp [fM, g_up, g_set, upd]) (by simp [fM]) hd hp k
theorem Kc_J0_length_8abf5 : gKc yJ0_length_8abf5 cJ0_length_8abf5 1 (some .int) 0 := ⟨w_213, by decide +kernel, by decide +kernel, by decide +kernel, by decide⟩
theorem KV_X10_69 : gKV RX10 69 yJ0_length_8abf5 := ⟨w_210, w_211, w_212, w_12⟩
theorem Kc_J0_charAt_5068e : gKc yJ0_charAt_5068e cJ0_charAt_5068e 2 (some .char) 1 := ⟨w_223, by decide +kernel, by decide +kernel, by decide +kernel, by decide⟩
theorem KV_X10_75 : gKV RX10 75 yJ0_charAt_5068e := ⟨w_220, w_221, w_222, w_12⟩
theorem Kc_X6_add : gKc yX6_add cX6_add 2 none 1 := ⟨w_261, by decide +kernel, by decide +kernel, by decide +kernel, by decide⟩
theorem KV_X10_79 : gKV RX10 79 yX6_add := ⟨w_258, w_259, w_260, w_2⟩
theorem Kc_X6_read : gKc yX6_read cX6_read 3 (some .int) 1 := ⟨w_265, by decide +kernel, by decide +kernel, by decide +kernel, by decide⟩
theorem KV_X10_83 : gKV RX10 83 yX6_read := ⟨w_262, w_263, w_264, w_2⟩
theorem Kc_J6_bitCount_0f7a4 : gKc yJ6_bitCount_0f7a4 cJ6_bitCount_0f7a4 1 (some .int) 1 := ⟨w_423, by decide +kernel, by decide +kernel, by decide +kernel, by decide⟩
theorem KS_X10_103 : gKS RX10 103 yJ6_bitCount_0f7a4 := ⟨w_421, w_422, w_19⟩
theorem Kc_X10_within : gKc yX10_within cX10_within 3 (some .boolean) 3 := ⟨w_276, by decide +kernel, by decide +kernel, by decide +kernel, by decide⟩
theorem KS_X10_112 : gKS RX10 112 yX10_within := ⟨w_431, w_275, w_1⟩
theorem Kc_X10_mostOfBorough : gKc yX10_mostOfBorough cX10_mostOfBorough 1 (some .int) 1 := ⟨w_434, by decide +kernel, by decide +kernel, by decide +kernel, by decide⟩
theorem KS_X10_116 : gKS RX10 116 yX10_mostOfBorough := ⟨w_432, w_433, w_1⟩
theorem Kc_X10_ofBorough : gKc yX10_ofBorough cX10_ofBorough 2 (some .int) 1 := ⟨w_438, by decide +kernel, by decide +kernel, by decide +kernel, by decide⟩
theorem KV_X10_119 : gKV RX10 119 yX10_ofBorough := ⟨w_435, w_437, ws_13, w_1⟩
theorem Kc_X9_mayAt : gKc yX9_mayAt cX9_mayAt 5 (some .int) 2 := ⟨w_446, by decide +kernel, by decide +kernel, by decide +kernel, by decide⟩
theorem KV_X10_128 : gKV RX10 128 yX9_mayAt := ⟨w_443, w_444, w_445, w_11⟩
theorem Kc_X10_firstOf : gKc yX10_firstOf cX10_firstOf 2 (some .int) 1 := ⟨w_517, by decide +kernel, by decide +kernel, by decide +kernel, by decide⟩
theorem KS_X10_132 : gKS RX10 132 yX10_firstOf := ⟨w_515, w_516, w_1⟩
theorem Kc_X10_isByte : gKc yX10_isByte cX10_isByte 1 (some .boolean) 1 := ⟨w_525, by decide +kernel, by decide +kernel, by decide +kernel, by decide⟩
theorem KS_X10_135 : gKS RX10 135 yX10_isByte := ⟨w_523, w_524, w_1⟩
theorem Kc_X9_isOne : gKc yX9_isOne cX9_isOne 2 (some .boolean) 1 := ⟨w_541, by decide +kernel, by decide +kernel, by decide +kernel, by decide⟩
theorem KV_X10_139 : gKV RX10 139 yX9_isOne := ⟨w_538, w_539, w_540, w_11⟩
theorem Kc_X9_saidOf : gKc yX9_saidOf cX9_saidOf 4 (some .int) 3 := ⟨w_545, by decide +kernel, by decide +kernel, by decide +kernel, by decide⟩
theorem KV_X10_142 : gKV RX10 142 yX9_saidOf := ⟨w_542, w_543, w_544, w_11⟩
theorem Kc_X9_settle : gKc yX9_settle cX9_settle 5 (some .int) 3 := ⟨w_553, by decide +kernel, by decide +kernel, by decide +kernel, by decide⟩
theorem KV_X10_146 : gKV RX10 146 yX9_settle := ⟨w_550, w_551, w_552, w_11⟩
theorem Kc_X9_row : gKc yX9_row cX9_row 2 (some (.array .int)) 1 := ⟨w_563, by decide +kernel, by decide +kernel, by decide +kernel, by decide⟩
theorem KV_X10_152 : gKV RX10 152 yX9_row := ⟨w_560, w_561, w_562, w_11⟩
theorem Kc_X9_wishedBy : gKc yX9_wishedBy cX9_wishedBy 8 (some .int) 2 := ⟨w_472, by decide +kernel, by decide +kernel, by decide +kernel, by decide⟩
theorem KV_X10_156 : gKV RX10 156 yX9_wishedBy := ⟨w_568, w_470, w_471, w_11⟩
theorem Kc_X9_listens : gKc yX9_listens cX9_listens 2 (some .boolean) 1 := ⟨w_450, by decide +kernel, by decide +kernel, by decide +kernel, by decide⟩
theorem KV_X10_159 : gKV RX10 159 yX9_listens := ⟨w_569, w_448, w_449, w_11⟩
theorem Kc_X9_goes : gKc yX9_goes cX9_goes 2 (some .int) 1 := ⟨w_573, by decide +kernel, by decide +kernel, by decide +kernel, by decide⟩
theorem KV_X10_162 : gKV RX10 162 yX9_goes := ⟨w_570, w_571, w_572, w_11⟩
theorem Kc_X9_peopleAt : gKc yX9_peopleAt cX9_peopleAt 4 (some .int) 1 := ⟨w_601, by decide +kernel, by decide +kernel, by decide +kernel, by decide⟩
theorem KV_X10_165 : gKV RX10 165 yX9_peopleAt := ⟨w_598, w_599, w_600, w_11⟩
theorem Kc_X9_listenersAt : gKc yX9_listenersAt cX9_listenersAt 4 (some .int) 1 := ⟨w_605, by decide +kernel, by decide +kernel, by decide +kernel, by decide⟩
theorem KV_X10_168 : gKV RX10 168 yX9_listenersAt := ⟨w_602, w_603, w_604, w_11⟩
theorem Kc_X9_pass : gKc yX9_pass cX9_pass 3 (some .int) 0 := ⟨w_613, by decide +kernel, by decide +kernel, by decide +kernel, by decide⟩
theorem KV_X10_171 : gKV RX10 171 yX9_pass := ⟨w_610, w_611, w_612, w_11⟩
theorem Kc_X9_become : gKc yX9_become cX9_become 2 none 1 := ⟨w_635, by decide +kernel, by decide +kernel, by decide +kernel, by decide⟩
theorem KV_X10_174 : gKV RX10 174 yX9_become := ⟨w_632, w_633, w_634, w_11⟩
theorem Kc_X9_passMany : gKc yX9_passMany cX9_passMany 4 (some .int) 1 := ⟨w_642, by decide +kernel, by decide +kernel, by decide +kernel, by decide⟩
theorem KV_X10_178 : gKV RX10 178 yX9_passMany := ⟨w_639, w_640, w_641, w_11⟩
theorem Kc_X9_knownTogether : gKc yX9_knownTogether cX9_knownTogether 3 (some .int) 0 := ⟨w_647, by decide +kernel, by decide +kernel, by decide +kernel, by decide⟩
theorem KV_X10_181 : gKV RX10 181 yX9_knownTogether := ⟨w_644, w_645, w_646, w_11⟩
theorem Kc_X10_isSoInThought : gKc yX10_isSoInThought cX10_isSoInThought 3 (some .boolean) 1 := ⟨w_655, by decide +kernel, by decide +kernel, by decide +kernel, by decide⟩
theorem KV_X10_190 : gKV RX10 190 yX10_isSoInThought := ⟨w_652, w_654, ws_17, w_1⟩
theorem Kc_X10_wishersAt : gKc yX10_wishersAt cX10_wishersAt 6 (some .int) 2 := ⟨w_675, by decide +kernel, by decide +kernel, by decide +kernel, by decide⟩
theorem KV_X10_196 : gKV RX10 196 yX10_wishersAt := ⟨w_672, w_674, ws_18, w_1⟩
theorem Kc_X10_isIn : gKc yX10_isIn cX10_isIn 2 (some .boolean) 2 := ⟨w_480, by decide +kernel, by decide +kernel, by decide +kernel, by decide⟩
theorem KS_X10_199 : gKS RX10 199 yX10_isIn := ⟨w_518, w_479, w_1⟩
theorem Kc_X10_mayAtAny : gKc yX10_mayAtAny cX10_mayAtAny 4 (some .int) 1 := ⟨w_683, by decide +kernel, by decide +kernel, by decide +kernel, by decide⟩
theorem KV_X10_203 : gKV RX10 203 yX10_mayAtAny := ⟨w_680, w_682, ws_19, w_1⟩
theorem Kc_X10_lowest : gKc yX10_lowest cX10_lowest 7 (some .long) 3 := ⟨w_691, by decide +kernel, by decide +kernel, by decide +kernel, by decide⟩
theorem KS_X10_208 : gKS RX10 208 yX10_lowest := ⟨w_689, w_690, w_1⟩
theorem Kc_X10_refusalToJudge : gKc yX10_refusalToJudge cX10_refusalToJudge 2 (some .int) 1 := ⟨w_699, by decide +kernel, by decide +kernel, by decide +kernel, by decide⟩
theorem KV_X10_212 : gKV RX10 212 yX10_refusalToJudge := ⟨w_696, w_698, ws_20, w_1⟩
theorem Kc_X10_otherwise : gKc yX10_otherwise cX10_otherwise 3 (some .int) 1 := ⟨w_703, by decide +kernel, by decide +kernel, by decide +kernel, by decide⟩
theorem KV_X10_215 : gKV RX10 215 yX10_otherwise := ⟨w_700, w_702, ws_21, w_1⟩
theorem Kc_X4_become : gKc yX4_become cX4_become 3 none 2 := ⟨w_731, by decide +kernel, by decide +kernel, by decide +kernel, by decide⟩
theorem KV_X10_225 : gKV RX10 225 yX4_become := ⟨w_728, w_729, w_730, w_4⟩
theorem Kc_X4_set : gKc yX4_set cX4_set 3 none 2 := ⟨w_738, by decide +kernel, by decide +kernel, by decide +kernel, by decide⟩
theorem KV_X10_228 : gKV RX10 228 yX4_set := ⟨w_735, w_736, w_737, w_4⟩
theorem Kc_X10_criedByLots : gKc yX10_criedByLots cX10_criedByLots 8 (some .int) 1 := ⟨w_748, by decide +kernel, by decide +kernel, by decide +kernel, by decide⟩
theorem KV_X10_232 : gKV RX10 232 yX10_criedByLots := ⟨w_745, w_747, ws_22, w_1⟩
theorem Kc_X4_holds : gKc yX4_holds cX4_holds 3 (some .boolean) 2 := ⟨w_783, by decide +kernel, by decide +kernel, by decide +kernel, by decide⟩
theorem KV_X10_243 : gKV RX10 243 yX4_holds := ⟨w_780, w_781, w_782, w_4⟩
theorem Kc_X10_citizen : gKc yX10_citizen cX10_citizen 5 (some .int) 3 := ⟨w_549, by decide +kernel, by decide +kernel, by decide +kernel, by decide⟩
theorem KV_X10_255 : gKV RX10 255 yX10_citizen := ⟨w_789, w_547, w_548, w_1⟩
theorem Kc_X9_nature : gKc yX9_nature cX9_nature 2 (some (.object "CrierOfBorough$Citizen")) 1 := ⟨w_454, by decide +kernel, by decide +kernel, by decide +kernel, by decide⟩
theorem KV_X10_258 : gKV RX10 258 yX9_nature := ⟨w_794, w_452, w_453, w_11⟩
theorem Kc_X0_isOf : gKc yX0_isOf cX0_isOf 2 (some .boolean) 1 := ⟨w_819, by decide +kernel, by decide +kernel, by decide +kernel, by decide⟩
theorem KU_X10_262_0 : gKU RX10 262 RX0 RX0 yX0_isOf yX0_isOf := ⟨w_795, w_798, w_797, w_796, w_5, rfl, by decide +kernel, by decide +kernel⟩
theorem Kc_X3_isOf : gKc yX3_isOf cX3_isOf 2 (some .boolean) 1 := ⟨w_809, by decide +kernel, by decide +kernel, by decide +kernel, by decide⟩
theorem KO_X10_262_1 : gKO RX10 262 RX3 RX0 yX0_isOf yX3_isOf := ⟨w_795, w_798, w_796, w_807, w_808, w_6, ⟨_, _, _, w_819⟩, by decide +kernel, by decide +kernel, rfl⟩
theorem Kc_X1_isOf : gKc yX1_isOf cX1_isOf 2 (some .boolean) 1 := ⟨w_801, by decide +kernel, by decide +kernel, by decide +kernel, by decide⟩
theorem KO_X10_262_2 : gKO RX10 262 RX1 RX0 yX0_isOf yX1_isOf := ⟨w_795, w_798, w_796, w_799, w_800, w_7, ⟨_, _, _, w_819⟩, by decide +kernel, by decide +kernel, rfl⟩
theorem Kc_X8_isOf : gKc yX8_isOf cX8_isOf 2 (some .boolean) 1 := ⟨w_817, by decide +kernel, by decide +kernel, by decide +kernel, by decide⟩
theorem KO_X10_262_3 : gKO RX10 262 RX8 RX0 yX0_isOf yX8_isOf := ⟨w_795, w_798, w_796, w_815, w_816, w_8, ⟨_, _, _, w_819⟩, by decide +kernel, by decide +kernel, rfl⟩
theorem Kc_X2_isOf : gKc yX2_isOf cX2_isOf 2 (some .boolean) 1 := ⟨w_805, by decide +kernel, by decide +kernel, by decide +kernel, by decide⟩
theorem KO_X10_262_4 : gKO RX10 262 RX2 RX0 yX0_isOf yX2_isOf := ⟨w_795, w_798, w_796, w_803, w_804, w_9, ⟨_, _, _, w_819⟩, by decide +kernel, by decide +kernel, rfl⟩
theorem Kc_X5_isOf : gKc yX5_isOf cX5_isOf 2 (some .boolean) 1 := ⟨w_813, by decide +kernel, by decide +kernel, by decide +kernel, by decide⟩
theorem KO_X10_262_5 : gKO RX10 262 RX5 RX0 yX0_isOf yX5_isOf := ⟨w_795, w_798, w_796, w_811, w_812, w_10, ⟨_, _, _, w_819⟩, by decide +kernel, by decide +kernel, rfl⟩
theorem Kc_X10_lotBehind : gKc yX10_lotBehind cX10_lotBehind 2 (some .long) 1 := ⟨w_751, by decide +kernel, by decide +kernel, by decide +kernel, by decide⟩
theorem KS_X10_265 : gKS RX10 265 yX10_lotBehind := ⟨w_749, w_750, w_1⟩
theorem KP_X1_7 : gKP RX1 7 yX0_isOf := ⟨w_802, w_798, w_123, w_796, w_5, by decide +kernel⟩
theorem KP_X2_7 : gKP RX2 7 yX1_isOf := ⟨w_806, w_1252, w_137, w_800, w_7, by decide +kernel⟩
theorem Kc_X0_wishes : gKc yX0_wishes cX0_wishes 6 (some .boolean) 5 := ⟨w_514, by decide +kernel, by decide +kernel, by decide +kernel, by decide⟩
theorem KI_X2_11 : gKI RX2 11 ⟨RX1, "wishes", "(ZIIII)Z"⟩ yX0_wishes := ⟨w_501, w_502, w_137, w_123, w_494, w_5, by decide +kernel, rfl⟩
theorem Kc_X1_goesOn : gKc yX1_goesOn cX1_goesOn 3 (some .int) 2 := ⟨w_581, by decide +kernel, by decide +kernel, by decide +kernel, by decide⟩
theorem KP_X2_15 : gKP RX2 15 yX1_goesOn := ⟨w_585, w_1251, w_137, w_580, w_7, by decide +kernel⟩
theorem KP_X3_7 : gKP RX3 7 yX0_isOf := ⟨w_810, w_798, w_116, w_796, w_5, by decide +kernel⟩
theorem Kc_J7_fill_53178 : gKc yJ7_fill_53178 cJ7_fill_53178 4 none 2 := ⟨w_734, by decide +kernel, by decide +kernel, by decide +kernel, by decide⟩
theorem KS_X4_22 : gKS RX4 22 yJ7_fill_53178 := ⟨w_732, w_733, w_21⟩
theorem KN_X4_28 : gKN SC RX4 RX10 28 yX10_within := ⟨fun z A U H h => h.2.2.2.2.2.2 _ (gNB_of w_739 rfl), w_275, w_1⟩
theorem KP_X5_7 : gKP RX5 7 yX0_isOf := ⟨w_814, w_798, w_144, w_796, w_5, by decide +kernel⟩
theorem Kc_X6_advance : gKc yX6_advance cX6_advance 2 none 0 := ⟨w_269, by decide +kernel, by decide +kernel, by decide +kernel, by decide⟩
theorem KV_X6_29 : gKV RX6 29 yX6_advance := ⟨w_266, w_268, ws_0, w_2⟩
theorem Kc_X6_readEither : gKc yX6_readEither cX6_readEither 3 (some .boolean) 1 := ⟨w_363, by decide +kernel, by decide +kernel, by decide +kernel, by decide⟩
theorem KV_X6_38 : gKV RX6 38 yX6_readEither := ⟨w_360, w_362, ws_7, w_2⟩
theorem Kc_X6_readBoth : gKc yX6_readBoth cX6_readBoth 3 (some .boolean) 1 := ⟨w_367, by decide +kernel, by decide +kernel, by decide +kernel, by decide⟩
theorem KV_X6_45 : gKV RX6 45 yX6_readBoth := ⟨w_364, w_366, ws_8, w_2⟩
theorem Kc_X7_add : gKc yX7_add cX7_add 2 none 1 := ⟨w_375, by decide +kernel, by decide +kernel, by decide +kernel, by decide⟩
theorem KV_X6_48 : gKV RX6 48 yX7_add := ⟨w_372, w_373, w_374, w_3⟩
theorem Kc_X6_readNot : gKc yX6_readNot cX6_readNot 3 (some .boolean) 1 := ⟨w_371, by decide +kernel, by decide +kernel, by decide +kernel, by decide⟩
theorem KV_X6_52 : gKV RX6 52 yX6_readNot := ⟨w_368, w_370, ws_9, w_2⟩
theorem Kc_X6_readSum : gKc yX6_readSum cX6_readSum 4 (some .boolean) 1 := ⟨w_379, by decide +kernel, by decide +kernel, by decide +kernel, by decide⟩
theorem KV_X6_55 : gKV RX6 55 yX6_readSum := ⟨w_376, w_378, ws_10, w_2⟩
theorem Kc_X6_readTerm : gKc yX6_readTerm cX6_readTerm 3 (some .boolean) 1 := ⟨w_383, by decide +kernel, by decide +kernel, by decide +kernel, by decide⟩
theorem KV_X6_58 : gKV RX6 58 yX6_readTerm := ⟨w_380, w_382, ws_11, w_2⟩
theorem Kc_X6_readOne : gKc yX6_readOne cX6_readOne 2 (some .boolean) 1 := ⟨w_387, by decide +kernel, by decide +kernel, by decide +kernel, by decide⟩
theorem KV_X6_61 : gKV RX6 61 yX6_readOne := ⟨w_384, w_386, ws_12, w_2⟩
theorem KN_X6_64 : gKN SC RX6 RX10 64 yX10_within := ⟨fun z A U H h => h.2.2.2.2.2.2 _ (gNB_of w_274 rfl), w_275, w_1⟩
theorem Kc_X6_isLetter : gKc yX6_isLetter cX6_isLetter 2 (some .boolean) 1 := ⟨w_273, by decide +kernel, by decide +kernel, by decide +kernel, by decide⟩
theorem KV_X6_71 : gKV RX6 71 yX6_isLetter := ⟨w_270, w_272, ws_1, w_2⟩
theorem Kc_X6_wordEnd : gKc yX6_wordEnd cX6_wordEnd 3 (some .int) 1 := ⟨w_280, by decide +kernel, by decide +kernel, by decide +kernel, by decide⟩
theorem KV_X6_74 : gKV RX6 74 yX6_wordEnd := ⟨w_277, w_279, ws_2, w_2⟩
theorem Kc_X6_word : gKc yX6_word cX6_word 6 (some .int) 2 := ⟨w_284, by decide +kernel, by decide +kernel, by decide +kernel, by decide⟩
theorem KV_X6_78 : gKV RX6 78 yX6_word := ⟨w_281, w_283, ws_3, w_2⟩
theorem Kc_X6_isDigit : gKc yX6_isDigit cX6_isDigit 2 (some .boolean) 1 := ⟨w_295, by decide +kernel, by decide +kernel, by decide +kernel, by decide⟩
theorem KV_X6_82 : gKV RX6 82 yX6_isDigit := ⟨w_292, w_294, ws_5, w_2⟩
theorem Kc_X6_takeNumber : gKc yX6_takeNumber cX6_takeNumber 3 none 1 := ⟨w_299, by decide +kernel, by decide +kernel, by decide +kernel, by decide⟩
theorem KV_X6_85 : gKV RX6 85 yX6_takeNumber := ⟨w_296, w_298, ws_6, w_2⟩
theorem Kc_J0_indexOf_0f7a4 : gKc yJ0_indexOf_0f7a4 cJ0_indexOf_0f7a4 2 (some .int) 1 := ⟨w_304, by decide +kernel, by decide +kernel, by decide +kernel, by decide⟩
theorem KV_X6_90 : gKV RX6 90 yJ0_indexOf_0f7a4 := ⟨w_301, w_302, w_303, w_12⟩
theorem KV_X6_97 : gKV RX6 97 yJ0_length_8abf5 := ⟨w_286, w_211, w_212, w_12⟩
theorem KV_X6_101 : gKV RX6 101 yJ0_charAt_5068e := ⟨w_287, w_221, w_222, w_12⟩
theorem Kc_X6_isWordAt : gKc yX6_isWordAt cX6_isWordAt 6 (some .boolean) 3 := ⟨w_291, by decide +kernel, by decide +kernel, by decide +kernel, by decide⟩
theorem KV_X6_105 : gKV RX6 105 yX6_isWordAt := ⟨w_288, w_290, ws_4, w_2⟩
theorem Kc_X7_valuesTaken : gKc yX7_valuesTaken cX7_valuesTaken 1 (some .int) 1 := ⟨w_487, by decide +kernel, by decide +kernel, by decide +kernel, by decide⟩
theorem KS_X7_25 : gKS RX7 25 yX7_valuesTaken := ⟨w_485, w_486, w_3⟩
theorem Kc_X7_worth : gKc yX7_worth cX7_worth 4 (some .int) 4 := ⟨w_490, by decide +kernel, by decide +kernel, by decide +kernel, by decide⟩
theorem KS_X7_29 : gKS RX7 29 yX7_worth := ⟨w_488, w_489, w_3⟩
theorem Kc_J9_min_7cf53 : gKc yJ9_min_7cf53 cJ9_min_7cf53 2 (some .int) 2 := ⟨w_321, by decide +kernel, by decide +kernel, by decide +kernel, by decide⟩
theorem KS_X7_33 : gKS RX7 33 yJ9_min_7cf53 := ⟨w_491, w_320, w_16⟩
theorem Kc_J9_max_7cf53 : gKc yJ9_max_7cf53 cJ9_max_7cf53 2 (some .int) 2 := ⟨w_318, by decide +kernel, by decide +kernel, by decide +kernel, by decide⟩
theorem KS_X7_39 : gKS RX7 39 yJ9_max_7cf53 := ⟨w_492, w_317, w_16⟩
theorem KP_X8_7 : gKP RX8 7 yX3_isOf := ⟨w_818, w_1253, w_130, w_808, w_6, by decide +kernel⟩
theorem Kc_X3_wishes : gKc yX3_wishes cX3_wishes 6 (some .boolean) 5 := ⟨w_506, by decide +kernel, by decide +kernel, by decide +kernel, by decide⟩
theorem KP_X8_11 : gKP RX8 11 yX3_wishes := ⟨w_513, w_1250, w_130, w_505, w_6, by decide +kernel⟩
theorem Kc_X9_name : gKc yX9_name cX9_name 3 none 2 := ⟨w_476, by decide +kernel, by decide +kernel, by decide +kernel, by decide⟩
theorem KV_X9_66 : gKV RX9 66 yX9_name := ⟨w_473, w_475, ws_14, w_11⟩
theorem Kc_X7_says : gKc yX7_says cX7_says 8 (some .int) 2 := ⟨w_484, by decide +kernel, by decide +kernel, by decide +kernel, by decide⟩
theorem KV_X9_70 : gKV RX9 70 yX7_says := ⟨w_481, w_482, w_483, w_3⟩
theorem KS_X9_76 : gKS RX9 76 yJ6_bitCount_0f7a4 := ⟨w_477, w_422, w_19⟩
theorem KN_X9_82 : gKN SC RX9 RX10 82 yX10_isIn := ⟨fun z A U H h => h.2.2.2.2.2.2 _ (gNB_of w_478 rfl), w_479, w_1⟩
theorem KV_X9_86 : gKV RX9 86 yX9_nature := ⟨w_451, w_452, w_453, w_11⟩
theorem KU_X9_90_0 : gKU RX9 90 RX0 RX0 yX0_wishes yX0_wishes := ⟨w_493, w_496, w_495, w_494, w_5, rfl, by decide +kernel, by decide +kernel⟩
theorem KO_X9_90_1 : gKO RX9 90 RX3 RX0 yX0_wishes yX3_wishes := ⟨w_493, w_496, w_494, w_504, w_505, w_6, ⟨_, _, _, w_514⟩, by decide +kernel, by decide +kernel, rfl⟩
theorem KU_X9_90_2 : gKU RX9 90 RX1 RX0 yX0_wishes yX0_wishes := ⟨w_493, w_496, w_497, w_494, w_5, rfl, by decide +kernel, by decide +kernel⟩
theorem Kc_X8_wishes : gKc yX8_wishes cX8_wishes 6 (some .boolean) 5 := ⟨w_512, by decide +kernel, by decide +kernel, by decide +kernel, by decide⟩
theorem KO_X9_90_3 : gKO RX9 90 RX8 RX0 yX0_wishes yX8_wishes := ⟨w_493, w_496, w_494, w_510, w_511, w_8, ⟨_, _, _, w_514⟩, by decide +kernel, by decide +kernel, rfl⟩
theorem Kc_X2_wishes : gKc yX2_wishes cX2_wishes 6 (some .boolean) 5 := ⟨w_500, by decide +kernel, by decide +kernel, by decide +kernel, by decide⟩
theorem KO_X9_90_4 : gKO RX9 90 RX2 RX0 yX0_wishes yX2_wishes := ⟨w_493, w_496, w_494, w_498, w_499, w_9, ⟨_, _, _, w_514⟩, by decide +kernel, by decide +kernel, rfl⟩
theorem Kc_X5_wishes : gKc yX5_wishes cX5_wishes 6 (some .boolean) 5 := ⟨w_509, by decide +kernel, by decide +kernel, by decide +kernel, by decide⟩
theorem KO_X9_90_5 : gKO RX9 90 RX5 RX0 yX0_wishes yX5_wishes := ⟨w_493, w_496, w_494, w_507, w_508, w_10, ⟨_, _, _, w_514⟩, by decide +kernel, by decide +kernel, rfl⟩
theorem Kc_X0_hears : gKc yX0_hears cX0_hears 4 (some .boolean) 3 := ⟨w_468, by decide +kernel, by decide +kernel, by decide +kernel, by decide⟩
theorem KU_X9_96_0 : gKU RX9 96 RX0 RX0 yX0_hears yX0_hears := ⟨w_455, w_458, w_457, w_456, w_5, rfl, by decide +kernel, by decide +kernel⟩
theorem KU_X9_96_1 : gKU RX9 96 RX3 RX0 yX0_hears yX0_hears := ⟨w_455, w_458, w_463, w_456, w_5, rfl, by decide +kernel, by decide +kernel⟩
theorem Kc_X1_hears : gKc yX1_hears cX1_hears 4 (some .boolean) 3 := ⟨w_461, by decide +kernel, by decide +kernel, by decide +kernel, by decide⟩
theorem KO_X9_96_2 : gKO RX9 96 RX1 RX0 yX0_hears yX1_hears := ⟨w_455, w_458, w_456, w_459, w_460, w_7, ⟨_, _, _, w_468⟩, by decide +kernel, by decide +kernel, rfl⟩
theorem Kc_X8_hears : gKc yX8_hears cX8_hears 4 (some .boolean) 3 := ⟨w_467, by decide +kernel, by decide +kernel, by decide +kernel, by decide⟩
theorem KO_X9_96_3 : gKO RX9 96 RX8 RX0 yX0_hears yX8_hears := ⟨w_455, w_458, w_456, w_465, w_466, w_8, ⟨_, _, _, w_468⟩, by decide +kernel, by decide +kernel, rfl⟩
theorem KO_X9_96_4 : gKO RX9 96 RX2 RX0 yX0_hears yX1_hears := ⟨w_455, w_458, w_456, w_462, w_460, w_7, ⟨_, _, _, w_468⟩, by decide +kernel, by decide +kernel, rfl⟩
theorem KU_X9_96_5 : gKU RX9 96 RX5 RX0 yX0_hears yX0_hears := ⟨w_455, w_458, w_464, w_456, w_5, rfl, by decide +kernel, by decide +kernel⟩
theorem KV_X9_100 : gKV RX9 100 yX9_saidOf := ⟨w_574, w_543, w_544, w_11⟩
theorem Kc_X0_goesOn : gKc yX0_goesOn cX0_goesOn 3 (some .int) 2 := ⟨w_593, by decide +kernel, by decide +kernel, by decide +kernel, by decide⟩
theorem KU_X9_104_0 : gKU RX9 104 RX0 RX0 yX0_goesOn yX0_goesOn := ⟨w_575, w_578, w_577, w_576, w_5, rfl, by decide +kernel, by decide +kernel⟩
theorem Kc_X3_goesOn : gKc yX3_goesOn cX3_goesOn 3 (some .int) 2 := ⟨w_588, by decide +kernel, by decide +kernel, by decide +kernel, by decide⟩
theorem KO_X9_104_1 : gKO RX9 104 RX3 RX0 yX0_goesOn yX3_goesOn := ⟨w_575, w_578, w_576, w_586, w_587, w_6, ⟨_, _, _, w_593⟩, by decide +kernel, by decide +kernel, rfl⟩
theorem KO_X9_104_2 : gKO RX9 104 RX1 RX0 yX0_goesOn yX1_goesOn := ⟨w_575, w_578, w_576, w_579, w_580, w_7, ⟨_, _, _, w_593⟩, by decide +kernel, by decide +kernel, rfl⟩
theorem KO_X9_104_3 : gKO RX9 104 RX8 RX0 yX0_goesOn yX3_goesOn := ⟨w_575, w_578, w_576, w_592, w_587, w_6, ⟨_, _, _, w_593⟩, by decide +kernel, by decide +kernel, rfl⟩
theorem Kc_X2_goesOn : gKc yX2_goesOn cX2_goesOn 3 (some .int) 2 := ⟨w_584, by decide +kernel, by decide +kernel, by decide +kernel, by decide⟩
theorem KO_X9_104_4 : gKO RX9 104 RX2 RX0 yX0_goesOn yX2_goesOn := ⟨w_575, w_578, w_576, w_582, w_583, w_9, ⟨_, _, _, w_593⟩, by decide +kernel, by decide +kernel, rfl⟩
theorem Kc_X5_goesOn : gKc yX5_goesOn cX5_goesOn 3 (some .int) 2 := ⟨w_591, by decide +kernel, by decide +kernel, by decide +kernel, by decide⟩
theorem KO_X9_104_5 : gKO RX9 104 RX5 RX0 yX0_goesOn yX5_goesOn := ⟨w_575, w_578, w_576, w_589, w_590, w_10, ⟨_, _, _, w_593⟩, by decide +kernel, by decide +kernel, rfl⟩
theorem KV_X9_108 : gKV RX9 108 yX9_listens := ⟨w_447, w_448, w_449, w_11⟩
theorem KV_X9_112 : gKV RX9 112 yX9_wishedBy := ⟨w_469, w_470, w_471, w_11⟩
theorem KV_X9_115 : gKV RX9 115 yX9_mayAt := ⟨w_614, w_444, w_445, w_11⟩
theorem KN_X9_118 : gKN SC RX9 RX10 118 yX10_firstOf := ⟨fun z A U H h => h.2.2.2.2.2.2 _ (gNB_of w_615 rfl), w_516, w_1⟩
theorem Kc_X9_cry : gKc yX9_cry cX9_cry 3 none 1 := ⟨w_619, by decide +kernel, by decide +kernel, by decide +kernel, by decide⟩
theorem KV_X9_121 : gKV RX9 121 yX9_cry := ⟨w_616, w_618, ws_15, w_11⟩
theorem Kc_X9_knownBeside : gKc yX9_knownBeside cX9_knownBeside 4 (some .int) 1 := ⟨w_623, by decide +kernel, by decide +kernel, by decide +kernel, by decide⟩
theorem KV_X9_125 : gKV RX9 125 yX9_knownBeside := ⟨w_620, w_622, ws_16, w_11⟩
theorem KV_X9_128 : gKV RX9 128 yX9_goes := ⟨w_624, w_571, w_572, w_11⟩
theorem Kc_J9_floorMod_7cf53 : gKc yJ9_floorMod_7cf53 cJ9_floorMod_7cf53 3 (some .int) 2 := ⟨w_627, by decide +kernel, by decide +kernel, by decide +kernel, by decide⟩
theorem KS_X9_131 : gKS RX9 131 yJ9_floorMod_7cf53 := ⟨w_625, w_626, w_16⟩
theorem KV_X9_136 : gKV RX9 136 yX9_pass := ⟨w_643, w_611, w_612, w_11⟩
theorem Kc_X10_count : gKc yX10_count cX10_count 2 (some .int) 1 := ⟨w_420, by decide +kernel, by decide +kernel, by decide +kernel, by decide⟩
theorem KV_L_13 : gKV RL 13 yX10_count := ⟨w_417, w_418, w_419, w_1⟩
theorem Kc_X11_count : gKc yX11_count cX11_count 2 (some .int) 1 := ⟨w_973, by decide +kernel, by decide +kernel, by decide +kernel, by decide⟩
theorem KV_L_17 : gKV RL 17 yX11_count := ⟨w_970, w_971, w_972, w_18⟩
theorem Kc_X10_borough : gKc yX10_borough cX10_borough 4 (some .int) 2 := ⟨w_430, by decide +kernel, by decide +kernel, by decide +kernel, by decide⟩
theorem KV_L_18 : gKV RL 18 yX10_borough := ⟨w_427, w_428, w_429, w_1⟩
theorem Kc_X11_borough : gKc yX11_borough cX11_borough 5 (some .int) 2 := ⟨w_980, by decide +kernel, by decide +kernel, by decide +kernel, by decide⟩
theorem KV_L_22 : gKV RL 22 yX11_borough := ⟨w_977, w_978, w_979, w_18⟩
theorem Kc_X10_crier : gKc yX10_crier cX10_crier 2 (some .int) 1 := ⟨w_442, by decide +kernel, by decide +kernel, by decide +kernel, by decide⟩
theorem KV_L_23 : gKV RL 23 yX10_crier := ⟨w_439, w_440, w_441, w_1⟩
theorem Kc_X11_crier : gKc yX11_crier cX11_crier 2 (some .int) 1 := ⟨w_984, by decide +kernel, by decide +kernel, by decide +kernel, by decide⟩
theorem KV_L_26 : gKV RL 26 yX11_crier := ⟨w_981, w_982, w_983, w_18⟩
theorem Kc_X10_feed : gKc yX10_feed cX10_feed 8 (some .int) 6 := ⟨w_522, by decide +kernel, by decide +kernel, by decide +kernel, by decide⟩
theorem KV_L_27 : gKV RL 27 yX10_feed := ⟨w_519, w_520, w_521, w_1⟩
theorem Kc_X11_feed : gKc yX11_feed cX11_feed 8 (some .int) 6 := ⟨w_1026, by decide +kernel, by decide +kernel, by decide +kernel, by decide⟩
theorem KV_L_31 : gKV RL 31 yX11_feed := ⟨w_1023, w_1024, w_1025, w_18⟩
theorem Kc_X10_text : gKc yX10_text cX10_text 2 (some .int) 0 := ⟨w_529, by decide +kernel, by decide +kernel, by decide +kernel, by decide⟩
theorem KV_L_32 : gKV RL 32 yX10_text := ⟨w_526, w_527, w_528, w_1⟩
theorem Kc_X11_text : gKc yX11_text cX11_text 3 (some .int) 0 := ⟨w_829, by decide +kernel, by decide +kernel, by decide +kernel, by decide⟩
theorem KV_L_36 : gKV RL 36 yX11_text := ⟨w_1030, w_827, w_828, w_18⟩
theorem Kc_X10_force : gKc yX10_force cX10_force 3 (some .int) 1 := ⟨w_533, by decide +kernel, by decide +kernel, by decide +kernel, by decide⟩
theorem KV_L_37 : gKV RL 37 yX10_force := ⟨w_530, w_531, w_532, w_1⟩
theorem Kc_X11_force : gKc yX11_force cX11_force 3 (some .int) 1 := ⟨w_1034, by decide +kernel, by decide +kernel, by decide +kernel, by decide⟩
theorem KV_L_40 : gKV RL 40 yX11_force := ⟨w_1031, w_1032, w_1033, w_18⟩
theorem Kc_X10_asks : gKc yX10_asks cX10_asks 4 (some .int) 3 := ⟨w_537, by decide +kernel, by decide +kernel, by decide +kernel, by decide⟩
theorem KV_L_41 : gKV RL 41 yX10_asks := ⟨w_534, w_535, w_536, w_1⟩
theorem Kc_X11_asks : gKc yX11_asks cX11_asks 4 (some .int) 3 := ⟨w_1038, by decide +kernel, by decide +kernel, by decide +kernel, by decide⟩
theorem KV_L_45 : gKV RL 45 yX11_asks := ⟨w_1035, w_1036, w_1037, w_18⟩
theorem KV_L_46 : gKV RL 46 yX10_citizen := ⟨w_546, w_547, w_548, w_1⟩
theorem Kc_X11_citizen : gKc yX11_citizen cX11_citizen 4 (some .int) 3 := ⟨w_1046, by decide +kernel, by decide +kernel, by decide +kernel, by decide⟩
theorem KV_L_49 : gKV RL 49 yX11_citizen := ⟨w_1043, w_1044, w_1045, w_18⟩
theorem Kc_X10_put : gKc yX10_put cX10_put 6 (some .int) 3 := ⟨w_557, by decide +kernel, by decide +kernel, by decide +kernel, by decide⟩
theorem KV_L_50 : gKV RL 50 yX10_put := ⟨w_554, w_555, w_556, w_1⟩
theorem Kc_X11_put : gKc yX11_put cX11_put 6 (some .int) 3 := ⟨w_1053, by decide +kernel, by decide +kernel, by decide +kernel, by decide⟩
theorem KV_L_53 : gKV RL 53 yX11_put := ⟨w_1050, w_1051, w_1052, w_18⟩
theorem Kc_X10_told : gKc yX10_told cX10_told 3 (some .int) 2 := ⟨w_567, by decide +kernel, by decide +kernel, by decide +kernel, by decide⟩
theorem KV_L_54 : gKV RL 54 yX10_told := ⟨w_564, w_565, w_566, w_1⟩
theorem Kc_X11_told : gKc yX11_told cX11_told 3 (some .int) 2 := ⟨w_1057, by decide +kernel, by decide +kernel, by decide +kernel, by decide⟩
theorem KV_L_57 : gKV RL 57 yX11_told := ⟨w_1054, w_1055, w_1056, w_18⟩
theorem Kc_X10_ring : gKc yX10_ring cX10_ring 3 (some .int) 2 := ⟨w_597, by decide +kernel, by decide +kernel, by decide +kernel, by decide⟩
theorem KV_L_58 : gKV RL 58 yX10_ring := ⟨w_594, w_595, w_596, w_1⟩
theorem Kc_X11_ring : gKc yX11_ring cX11_ring 3 (some .int) 2 := ⟨w_1069, by decide +kernel, by decide +kernel, by decide +kernel, by decide⟩
theorem KV_L_61 : gKV RL 61 yX11_ring := ⟨w_1066, w_1067, w_1068, w_18⟩
theorem Kc_X10_hour : gKc yX10_hour cX10_hour 1 (some .int) 0 := ⟨w_609, by decide +kernel, by decide +kernel, by decide +kernel, by decide⟩
theorem KV_L_62 : gKV RL 62 yX10_hour := ⟨w_606, w_607, w_608, w_1⟩
theorem Kc_X11_hour : gKc yX11_hour cX11_hour 1 (some .int) 0 := ⟨w_1085, by decide +kernel, by decide +kernel, by decide +kernel, by decide⟩
theorem KV_L_65 : gKV RL 65 yX11_hour := ⟨w_1082, w_1083, w_1084, w_18⟩
theorem Kc_X10_run : gKc yX10_run cX10_run 5 (some .int) 2 := ⟨w_631, by decide +kernel, by decide +kernel, by decide +kernel, by decide⟩
theorem KV_L_66 : gKV RL 66 yX10_run := ⟨w_628, w_629, w_630, w_1⟩
theorem Kc_X11_run : gKc yX11_run cX11_run 5 (some .int) 2 := ⟨w_1097, by decide +kernel, by decide +kernel, by decide +kernel, by decide⟩
theorem KV_L_69 : gKV RL 69 yX11_run := ⟨w_1094, w_1095, w_1096, w_18⟩
theorem Kc_X10_when : gKc yX10_when cX10_when 4 (some .int) 1 := ⟨w_651, by decide +kernel, by decide +kernel, by decide +kernel, by decide⟩
theorem KV_L_70 : gKV RL 70 yX10_when := ⟨w_648, w_649, w_650, w_1⟩
theorem Kc_X11_when : gKc yX11_when cX11_when 4 (some .int) 1 := ⟨w_1117, by decide +kernel, by decide +kernel, by decide +kernel, by decide⟩
theorem KV_L_73 : gKV RL 73 yX11_when := ⟨w_1114, w_1115, w_1116, w_18⟩
theorem Kc_X10_where : gKc yX10_where cX10_where 6 (some .int) 1 := ⟨w_659, by decide +kernel, by decide +kernel, by decide +kernel, by decide⟩
theorem KV_L_74 : gKV RL 74 yX10_where := ⟨w_656, w_657, w_658, w_1⟩
theorem Kc_X11_where : gKc yX11_where cX11_where 6 (some .int) 1 := ⟨w_1125, by decide +kernel, by decide +kernel, by decide +kernel, by decide⟩
theorem KV_L_77 : gKV RL 77 yX11_where := ⟨w_1122, w_1123, w_1124, w_18⟩
theorem Kc_X10_begin : gKc yX10_begin cX10_begin 7 (some .int) 2 := ⟨w_663, by decide +kernel, by decide +kernel, by decide +kernel, by decide⟩
theorem KV_L_78 : gKV RL 78 yX10_begin := ⟨w_660, w_661, w_662, w_1⟩
theorem Kc_X11_begin : gKc yX11_begin cX11_begin 8 (some .int) 2 := ⟨w_1129, by decide +kernel, by decide +kernel, by decide +kernel, by decide⟩
theorem KV_L_81 : gKV RL 81 yX11_begin := ⟨w_1126, w_1127, w_1128, w_18⟩
theorem Kc_X10_windows : gKc yX10_windows cX10_windows 7 (some .int) 2 := ⟨w_667, by decide +kernel, by decide +kernel, by decide +kernel, by decide⟩
theorem KV_L_82 : gKV RL 82 yX10_windows := ⟨w_664, w_665, w_666, w_1⟩
theorem Kc_X11_windows : gKc yX11_windows cX11_windows 7 (some .int) 2 := ⟨w_1137, by decide +kernel, by decide +kernel, by decide +kernel, by decide⟩
theorem KV_L_85 : gKV RL 85 yX11_windows := ⟨w_1134, w_1135, w_1136, w_18⟩
theorem Kc_X10_hush : gKc yX10_hush cX10_hush 6 (some .int) 3 := ⟨w_671, by decide +kernel, by decide +kernel, by decide +kernel, by decide⟩
theorem KV_L_86 : gKV RL 86 yX10_hush := ⟨w_668, w_669, w_670, w_1⟩
theorem Kc_X11_hush : gKc yX11_hush cX11_hush 10 (some .int) 3 := ⟨w_1141, by decide +kernel, by decide +kernel, by decide +kernel, by decide⟩
theorem KV_L_89 : gKV RL 89 yX11_hush := ⟨w_1138, w_1139, w_1140, w_18⟩
theorem Kc_X10_round : gKc yX10_round cX10_round 6 (some .int) 1 := ⟨w_679, by decide +kernel, by decide +kernel, by decide +kernel, by decide⟩
theorem KV_L_90 : gKV RL 90 yX10_round := ⟨w_676, w_677, w_678, w_1⟩
theorem Kc_X11_round : gKc yX11_round cX11_round 7 (some .int) 1 := ⟨w_1152, by decide +kernel, by decide +kernel, by decide +kernel, by decide⟩
theorem KV_L_93 : gKV RL 93 yX11_round := ⟨w_1149, w_1150, w_1151, w_18⟩
theorem Kc_X10_mean : gKc yX10_mean cX10_mean 4 (some .long) 1 := ⟨w_687, by decide +kernel, by decide +kernel, by decide +kernel, by decide⟩
theorem KV_L_94 : gKV RL 94 yX10_mean := ⟨w_684, w_685, w_686, w_1⟩
theorem Kc_X11_mean : gKc yX11_mean cX11_mean 4 (some .long) 1 := ⟨w_1160, by decide +kernel, by decide +kernel, by decide +kernel, by decide⟩
theorem KV_L_98 : gKV RL 98 yX11_mean := ⟨w_1157, w_1158, w_1159, w_18⟩
theorem Kc_X10_judge : gKc yX10_judge cX10_judge 3 (some .int) 1 := ⟨w_695, by decide +kernel, by decide +kernel, by decide +kernel, by decide⟩
theorem KV_L_99 : gKV RL 99 yX10_judge := ⟨w_692, w_693, w_694, w_1⟩
theorem Kc_X11_judge : gKc yX11_judge cX11_judge 3 (some .int) 1 := ⟨w_1168, by decide +kernel, by decide +kernel, by decide +kernel, by decide⟩
theorem KV_L_102 : gKV RL 102 yX11_judge := ⟨w_1165, w_1166, w_1167, w_18⟩
theorem Kc_X10_kinds : gKc yX10_kinds cX10_kinds 8 (some .int) 3 := ⟨w_707, by decide +kernel, by decide +kernel, by decide +kernel, by decide⟩
theorem KV_L_103 : gKV RL 103 yX10_kinds := ⟨w_704, w_705, w_706, w_1⟩
theorem Kc_X11_kinds : gKc yX11_kinds cX11_kinds 9 (some .int) 3 := ⟨w_1180, by decide +kernel, by decide +kernel, by decide +kernel, by decide⟩
theorem KV_L_106 : gKV RL 106 yX11_kinds := ⟨w_1177, w_1178, w_1179, w_18⟩
theorem Kc_X10_corners : gKc yX10_corners cX10_corners 6 (some .int) 2 := ⟨w_711, by decide +kernel, by decide +kernel, by decide +kernel, by decide⟩
theorem KV_L_107 : gKV RL 107 yX10_corners := ⟨w_708, w_709, w_710, w_1⟩
theorem Kc_X11_corners : gKc yX11_corners cX11_corners 7 (some .int) 2 := ⟨w_1184, by decide +kernel, by decide +kernel, by decide +kernel, by decide⟩
theorem KV_L_110 : gKV RL 110 yX11_corners := ⟨w_1181, w_1182, w_1183, w_18⟩
theorem Kc_X10_turned : gKc yX10_turned cX10_turned 8 (some .int) 3 := ⟨w_715, by decide +kernel, by decide +kernel, by decide +kernel, by decide⟩
theorem KV_L_111 : gKV RL 111 yX10_turned := ⟨w_712, w_713, w_714, w_1⟩
theorem Kc_X11_turned : gKc yX11_turned cX11_turned 7 (some .int) 3 := ⟨w_1188, by decide +kernel, by decide +kernel, by decide +kernel, by decide⟩
theorem KV_L_114 : gKV RL 114 yX11_turned := ⟨w_1185, w_1186, w_1187, w_18⟩
theorem Kc_X10_evils : gKc yX10_evils cX10_evils 8 (some .int) 3 := ⟨w_719, by decide +kernel, by decide +kernel, by decide +kernel, by decide⟩
theorem KV_L_115 : gKV RL 115 yX10_evils := ⟨w_716, w_717, w_718, w_1⟩
theorem Kc_X11_evils : gKc yX11_evils cX11_evils 10 (some .int) 3 := ⟨w_1192, by decide +kernel, by decide +kernel, by decide +kernel, by decide⟩
theorem KV_L_118 : gKV RL 118 yX11_evils := ⟨w_1189, w_1190, w_1191, w_18⟩
theorem Kc_X10_laws : gKc yX10_laws cX10_laws 5 (some .int) 1 := ⟨w_723, by decide +kernel, by decide +kernel, by decide +kernel, by decide⟩
theorem KV_L_119 : gKV RL 119 yX10_laws := ⟨w_720, w_721, w_722, w_1⟩
theorem Kc_X11_laws : gKc yX11_laws cX11_laws 6 (some .int) 1 := ⟨w_1196, by decide +kernel, by decide +kernel, by decide +kernel, by decide⟩
theorem KV_L_122 : gKV RL 122 yX11_laws := ⟨w_1193, w_1194, w_1195, w_18⟩
theorem Kc_X10_film : gKc yX10_film cX10_film 4 (some .int) 2 := ⟨w_727, by decide +kernel, by decide +kernel, by decide +kernel, by decide⟩
theorem KV_L_123 : gKV RL 123 yX10_film := ⟨w_724, w_725, w_726, w_1⟩
theorem Kc_X11_film : gKc yX11_film cX11_film 4 (some .int) 2 := ⟨w_1200, by decide +kernel, by decide +kernel, by decide +kernel, by decide⟩
theorem KV_L_126 : gKV RL 126 yX11_film := ⟨w_1197, w_1198, w_1199, w_18⟩
theorem Kc_X10_drawn : gKc yX10_drawn cX10_drawn 4 (some .int) 2 := ⟨w_743, by decide +kernel, by decide +kernel, by decide +kernel, by decide⟩
theorem KV_L_127 : gKV RL 127 yX10_drawn := ⟨w_740, w_741, w_742, w_1⟩
theorem Kc_X11_drawn : gKc yX11_drawn cX11_drawn 4 (some .int) 2 := ⟨w_1204, by decide +kernel, by decide +kernel, by decide +kernel, by decide⟩
theorem KV_L_130 : gKV RL 130 yX11_drawn := ⟨w_1201, w_1202, w_1203, w_18⟩
theorem Kc_X10_odds : gKc yX10_odds cX10_odds 8 (some .long) 4 := ⟨w_759, by decide +kernel, by decide +kernel, by decide +kernel, by decide⟩
theorem KV_L_131 : gKV RL 131 yX10_odds := ⟨w_756, w_757, w_758, w_1⟩
theorem Kc_X11_odds : gKc yX11_odds cX11_odds 8 (some .long) 4 := ⟨w_1217, by decide +kernel, by decide +kernel, by decide +kernel, by decide⟩
theorem KV_L_135 : gKV RL 135 yX11_odds := ⟨w_1214, w_1215, w_1216, w_18⟩
theorem Kc_X10_image : gKc yX10_image cX10_image 1 (some .int) 0 := ⟨w_763, by decide +kernel, by decide +kernel, by decide +kernel, by decide⟩
theorem KV_L_136 : gKV RL 136 yX10_image := ⟨w_760, w_761, w_762, w_1⟩
theorem Kc_X11_image : gKc yX11_image cX11_image 2 (some .int) 0 := ⟨w_1221, by decide +kernel, by decide +kernel, by decide +kernel, by decide⟩
theorem KV_L_139 : gKV RL 139 yX11_image := ⟨w_1218, w_1219, w_1220, w_18⟩
theorem Kc_X10_back : gKc yX10_back cX10_back 1 (some .int) 0 := ⟨w_767, by decide +kernel, by decide +kernel, by decide +kernel, by decide⟩
theorem KV_L_140 : gKV RL 140 yX10_back := ⟨w_764, w_765, w_766, w_1⟩
theorem Kc_X11_back : gKc yX11_back cX11_back 2 (some .int) 0 := ⟨w_1225, by decide +kernel, by decide +kernel, by decide +kernel, by decide⟩
theorem KV_L_143 : gKV RL 143 yX11_back := ⟨w_1222, w_1223, w_1224, w_18⟩
theorem Kc_X10_sheet : gKc yX10_sheet cX10_sheet 5 (some .int) 3 := ⟨w_771, by decide +kernel, by decide +kernel, by decide +kernel, by decide⟩
theorem KV_L_144 : gKV RL 144 yX10_sheet := ⟨w_768, w_769, w_770, w_1⟩
theorem Kc_X11_sheet : gKc yX11_sheet cX11_sheet 5 (some .int) 3 := ⟨w_1229, by decide +kernel, by decide +kernel, by decide +kernel, by decide⟩
theorem KV_L_147 : gKV RL 147 yX11_sheet := ⟨w_1226, w_1227, w_1228, w_18⟩
theorem Kc_X10_cell : gKc yX10_cell cX10_cell 4 (some .int) 3 := ⟨w_775, by decide +kernel, by decide +kernel, by decide +kernel, by decide⟩
theorem KV_L_148 : gKV RL 148 yX10_cell := ⟨w_772, w_773, w_774, w_1⟩
theorem Kc_X11_cell : gKc yX11_cell cX11_cell 4 (some .int) 3 := ⟨w_1233, by decide +kernel, by decide +kernel, by decide +kernel, by decide⟩
theorem KV_L_151 : gKV RL 151 yX11_cell := ⟨w_1230, w_1231, w_1232, w_18⟩
theorem Kc_X10_copy : gKc yX10_copy cX10_copy 8 (some .int) 5 := ⟨w_779, by decide +kernel, by decide +kernel, by decide +kernel, by decide⟩
theorem KV_L_152 : gKV RL 152 yX10_copy := ⟨w_776, w_777, w_778, w_1⟩
theorem Kc_X11_copy : gKc yX11_copy cX11_copy 10 (some .int) 5 := ⟨w_1237, by decide +kernel, by decide +kernel, by decide +kernel, by decide⟩
theorem KV_L_156 : gKV RL 156 yX11_copy := ⟨w_1234, w_1235, w_1236, w_18⟩
theorem Kc_X10_peopleBy : gKc yX10_peopleBy cX10_peopleBy 9 (some .int) 4 := ⟨w_788, by decide +kernel, by decide +kernel, by decide +kernel, by decide⟩
theorem KV_L_157 : gKV RL 157 yX10_peopleBy := ⟨w_785, w_786, w_787, w_1⟩
theorem Kc_X11_peopleBy : gKc yX11_peopleBy cX11_peopleBy 9 (some .int) 4 := ⟨w_1241, by decide +kernel, by decide +kernel, by decide +kernel, by decide⟩
theorem KV_L_161 : gKV RL 161 yX11_peopleBy := ⟨w_1238, w_1239, w_1240, w_18⟩
theorem Kc_X10_taken : gKc yX10_taken cX10_taken 5 (some .int) 2 := ⟨w_793, by decide +kernel, by decide +kernel, by decide +kernel, by decide⟩
theorem KV_L_162 : gKV RL 162 yX10_taken := ⟨w_790, w_791, w_792, w_1⟩
theorem Kc_X11_taken : gKc yX11_taken cX11_taken 3 (some .int) 2 := ⟨w_1246, by decide +kernel, by decide +kernel, by decide +kernel, by decide⟩
theorem KV_L_165 : gKV RL 165 yX11_taken := ⟨w_1243, w_1244, w_1245, w_18⟩
theorem KV_X11_71 : gKV RX11 71 yX11_text := ⟨w_826, w_827, w_828, w_18⟩
theorem Kc_X11_in : gKc yX11_in cX11_in 3 (some .boolean) 3 := ⟨w_836, by decide +kernel, by decide +kernel, by decide +kernel, by decide⟩
theorem KS_X11_78 : gKS RX11 78 yX11_in := ⟨w_834, w_835, w_18⟩
theorem Kc_X11_onesOf : gKc yX11_onesOf cX11_onesOf 3 (some .int) 1 := ⟨w_976, by decide +kernel, by decide +kernel, by decide +kernel, by decide⟩
theorem KS_X11_82 : gKS RX11 82 yX11_onesOf := ⟨w_974, w_975, w_18⟩
theorem Kc_X11_criedNow : gKc yX11_criedNow cX11_criedNow 2 (some .int) 0 := ⟨w_988, by decide +kernel, by decide +kernel, by decide +kernel, by decide⟩
theorem KV_X11_92 : gKV RX11 92 yX11_criedNow := ⟨w_985, w_987, ws_32, w_18⟩
theorem Kc_X11_isByte : gKc yX11_isByte cX11_isByte 1 (some .boolean) 1 := ⟨w_1029, by decide +kernel, by decide +kernel, by decide +kernel, by decide⟩
theorem KS_X11_95 : gKS RX11 95 yX11_isByte := ⟨w_1027, w_1028, w_18⟩
theorem Kc_X11_wordFrom : gKc yX11_wordFrom cX11_wordFrom 6 (some .int) 2 := ⟨w_840, by decide +kernel, by decide +kernel, by decide +kernel, by decide⟩
theorem KV_X11_111 : gKV RX11 111 yX11_wordFrom := ⟨w_837, w_839, ws_24, w_18⟩
theorem Kc_X11_rank : gKc yX11_rank cX11_rank 1 (some .int) 1 := ⟨w_856, by decide +kernel, by decide +kernel, by decide +kernel, by decide⟩
theorem KS_X11_121 : gKS RX11 121 yX11_rank := ⟨w_854, w_855, w_18⟩
theorem Kc_X11_puts : gKc yX11_puts cX11_puts 2 none 1 := ⟨w_849, by decide +kernel, by decide +kernel, by decide +kernel, by decide⟩
theorem KV_X11_127 : gKV RX11 127 yX11_puts := ⟨w_846, w_848, ws_26, w_18⟩
theorem Kc_X11_holds : gKc yX11_holds cX11_holds 2 none 1 := ⟨w_864, by decide +kernel, by decide +kernel, by decide +kernel, by decide⟩
theorem KV_X11_131 : gKV RX11 131 yX11_holds := ⟨w_861, w_863, ws_29, w_18⟩
theorem Kc_X11_unwinds : gKc yX11_unwinds cX11_unwinds 3 none 1 := ⟨w_853, by decide +kernel, by decide +kernel, by decide +kernel, by decide⟩
theorem KV_X11_134 : gKV RX11 134 yX11_unwinds := ⟨w_850, w_852, ws_27, w_18⟩
theorem Kc_X11_next : gKc yX11_next cX11_next 3 none 0 := ⟨w_833, by decide +kernel, by decide +kernel, by decide +kernel, by decide⟩
theorem KV_X11_137 : gKV RX11 137 yX11_next := ⟨w_830, w_832, ws_23, w_18⟩
theorem Kc_X11_opensOne : gKc yX11_opensOne cX11_opensOne 2 (some .boolean) 1 := ⟨w_860, by decide +kernel, by decide +kernel, by decide +kernel, by decide⟩
theorem KV_X11_141 : gKV RX11 141 yX11_opensOne := ⟨w_857, w_859, ws_28, w_18⟩
theorem Kc_X11_signOf : gKc yX11_signOf cX11_signOf 1 (some .int) 0 := ⟨w_868, by decide +kernel, by decide +kernel, by decide +kernel, by decide⟩
theorem KV_X11_144 : gKV RX11 144 yX11_signOf := ⟨w_865, w_867, ws_30, w_18⟩
theorem Kc_X11_between : gKc yX11_between cX11_between 2 (some .boolean) 1 := ⟨w_872, by decide +kernel, by decide +kernel, by decide +kernel, by decide⟩
theorem KV_X11_147 : gKV RX11 147 yX11_between := ⟨w_869, w_871, ws_31, w_18⟩
theorem Kc_X11_eRead : gKc yX11_eRead cX11_eRead 4 (some .boolean) 0 := ⟨w_844, by decide +kernel, by decide +kernel, by decide +kernel, by decide⟩
theorem KV_X11_150 : gKV RX11 150 yX11_eRead := ⟨w_841, w_843, ws_25, w_18⟩
theorem Kc_X11_two : gKc yX11_two cX11_two 3 (some .int) 3 := ⟨w_1015, by decide +kernel, by decide +kernel, by decide +kernel, by decide⟩
theorem KS_X11_154 : gKS RX11 154 yX11_two := ⟨w_1013, w_1014, w_18⟩
theorem Kc_X11_says : gKc yX11_says cX11_says 5 (some .int) 1 := ⟨w_1012, by decide +kernel, by decide +kernel, by decide +kernel, by decide⟩
theorem KV_X11_158 : gKV RX11 158 yX11_says := ⟨w_1009, w_1011, ws_38, w_18⟩
theorem Kc_X11_within : gKc yX11_within cX11_within 3 (some .int) 3 := ⟨w_1018, by decide +kernel, by decide +kernel, by decide +kernel, by decide⟩
theorem KS_X11_161 : gKS RX11 161 yX11_within := ⟨w_1016, w_1017, w_18⟩
theorem Kc_X11_isOne : gKc yX11_isOne cX11_isOne 2 (some .boolean) 1 := ⟨w_1042, by decide +kernel, by decide +kernel, by decide +kernel, by decide⟩
theorem KV_X11_164 : gKV RX11 164 yX11_isOne := ⟨w_1039, w_1041, ws_40, w_18⟩
theorem Kc_X11_asksOf : gKc yX11_asksOf cX11_asksOf 4 (some .int) 3 := ⟨w_1008, by decide +kernel, by decide +kernel, by decide +kernel, by decide⟩
theorem KV_X11_167 : gKV RX11 167 yX11_asksOf := ⟨w_1005, w_1007, ws_37, w_18⟩
theorem Kc_X11_isCorner : gKc yX11_isCorner cX11_isCorner 1 (some .boolean) 1 := ⟨w_1049, by decide +kernel, by decide +kernel, by decide +kernel, by decide⟩
theorem KS_X11_170 : gKS RX11 170 yX11_isCorner := ⟨w_1047, w_1048, w_18⟩
theorem Kc_X11_motherWish : gKc yX11_motherWish cX11_motherWish 5 (some .boolean) 4 := ⟨w_1004, by decide +kernel, by decide +kernel, by decide +kernel, by decide⟩
theorem KV_X11_173 : gKV RX11 173 yX11_motherWish := ⟨w_1001, w_1003, ws_36, w_18⟩
theorem Kc_X11_plainWish : gKc yX11_plainWish cX11_plainWish 4 (some .boolean) 3 := ⟨w_1022, by decide +kernel, by decide +kernel, by decide +kernel, by decide⟩
theorem KV_X11_177 : gKV RX11 177 yX11_plainWish := ⟨w_1019, w_1021, ws_39, w_18⟩
theorem Kc_X11_wishes : gKc yX11_wishes cX11_wishes 4 (some .boolean) 2 := ⟨w_1000, by decide +kernel, by decide +kernel, by decide +kernel, by decide⟩
theorem KV_X11_181 : gKV RX11 181 yX11_wishes := ⟨w_997, w_999, ws_35, w_18⟩
theorem Kc_X11_wishSet : gKc yX11_wishSet cX11_wishSet 5 (some .int) 2 := ⟨w_1061, by decide +kernel, by decide +kernel, by decide +kernel, by decide⟩
theorem KV_X11_185 : gKV RX11 185 yX11_wishSet := ⟨w_1058, w_1060, ws_41, w_18⟩
theorem Kc_X11_listens : gKc yX11_listens cX11_listens 3 (some .boolean) 1 := ⟨w_996, by decide +kernel, by decide +kernel, by decide +kernel, by decide⟩
theorem KV_X11_188 : gKV RX11 188 yX11_listens := ⟨w_993, w_995, ws_34, w_18⟩
theorem Kc_X11_goesOf : gKc yX11_goesOf cX11_goesOf 3 (some .int) 1 := ⟨w_1065, by decide +kernel, by decide +kernel, by decide +kernel, by decide⟩
theorem KV_X11_191 : gKV RX11 191 yX11_goesOf := ⟨w_1062, w_1064, ws_42, w_18⟩
theorem Kc_X11_may : gKc yX11_may cX11_may 4 (some .boolean) 2 := ⟨w_992, by decide +kernel, by decide +kernel, by decide +kernel, by decide⟩
theorem KV_X11_194 : gKV RX11 194 yX11_may := ⟨w_989, w_991, ws_33, w_18⟩
theorem Kc_X11_whoAt : gKc yX11_whoAt cX11_whoAt 4 (some .int) 1 := ⟨w_1073, by decide +kernel, by decide +kernel, by decide +kernel, by decide⟩
theorem KV_X11_197 : gKV RX11 197 yX11_whoAt := ⟨w_1070, w_1072, ws_43, w_18⟩
theorem Kc_X11_listeners : gKc yX11_listeners cX11_listeners 4 (some .int) 1 := ⟨w_1077, by decide +kernel, by decide +kernel, by decide +kernel, by decide⟩
theorem KV_X11_200 : gKV RX11 200 yX11_listeners := ⟨w_1074, w_1076, ws_44, w_18⟩
theorem Kc_X11_maySet : gKc yX11_maySet cX11_maySet 5 (some .int) 2 := ⟨w_1081, by decide +kernel, by decide +kernel, by decide +kernel, by decide⟩
theorem KV_X11_203 : gKV RX11 203 yX11_maySet := ⟨w_1078, w_1080, ws_45, w_18⟩
theorem Kc_X11_knownToOthers : gKc yX11_knownToOthers cX11_knownToOthers 4 (some .int) 1 := ⟨w_1093, by decide +kernel, by decide +kernel, by decide +kernel, by decide⟩
theorem KV_X11_206 : gKV RX11 206 yX11_knownToOthers := ⟨w_1090, w_1092, ws_47, w_18⟩
theorem Kc_X11_hourOf : gKc yX11_hourOf cX11_hourOf 4 (some .int) 0 := ⟨w_1089, by decide +kernel, by decide +kernel, by decide +kernel, by decide⟩
theorem KV_X11_209 : gKV RX11 209 yX11_hourOf := ⟨w_1086, w_1088, ws_46, w_18⟩
theorem Kc_X11_keeps : gKc yX11_keeps cX11_keeps 2 none 0 := ⟨w_1101, by decide +kernel, by decide +kernel, by decide +kernel, by decide⟩
theorem KV_X11_212 : gKV RX11 212 yX11_keeps := ⟨w_1098, w_1100, ws_48, w_18⟩
theorem Kc_X11_goes : gKc yX11_goes cX11_goes 4 (some .int) 1 := ⟨w_1105, by decide +kernel, by decide +kernel, by decide +kernel, by decide⟩
theorem KV_X11_215 : gKV RX11 215 yX11_goes := ⟨w_1102, w_1104, ws_49, w_18⟩
theorem Kc_X11_lays : gKc yX11_lays cX11_lays 2 none 0 := ⟨w_1113, by decide +kernel, by decide +kernel, by decide +kernel, by decide⟩
theorem KV_X11_218 : gKV RX11 218 yX11_lays := ⟨w_1110, w_1112, ws_51, w_18⟩
theorem Kc_X11_knownAll : gKc yX11_knownAll cX11_knownAll 3 (some .int) 0 := ⟨w_1109, by decide +kernel, by decide +kernel, by decide +kernel, by decide⟩
theorem KV_X11_221 : gKV RX11 221 yX11_knownAll := ⟨w_1106, w_1108, ws_50, w_18⟩
theorem Kc_X11_isNow : gKc yX11_isNow cX11_isNow 3 (some .boolean) 1 := ⟨w_1121, by decide +kernel, by decide +kernel, by decide +kernel, by decide⟩
theorem KV_X11_224 : gKV RX11 224 yX11_isNow := ⟨w_1118, w_1120, ws_52, w_18⟩
theorem Kc_X11_criedIn : gKc yX11_criedIn cX11_criedIn 3 (some .int) 1 := ⟨w_1133, by decide +kernel, by decide +kernel, by decide +kernel, by decide⟩
theorem KV_X11_227 : gKV RX11 227 yX11_criedIn := ⟨w_1130, w_1132, ws_53, w_18⟩
theorem Kc_X11_isThing : gKc yX11_isThing cX11_isThing 1 (some .boolean) 1 := ⟨w_1144, by decide +kernel, by decide +kernel, by decide +kernel, by decide⟩
theorem KS_X11_230 : gKS RX11 230 yX11_isThing := ⟨w_1142, w_1143, w_18⟩
theorem Kc_X11_mayHushed : gKc yX11_mayHushed cX11_mayHushed 5 (some .boolean) 3 := ⟨w_1148, by decide +kernel, by decide +kernel, by decide +kernel, by decide⟩
theorem KV_X11_233 : gKV RX11 233 yX11_mayHushed := ⟨w_1145, w_1147, ws_54, w_18⟩
theorem Kc_X11_toldBy : gKc yX11_toldBy cX11_toldBy 4 (some .int) 1 := ⟨w_1156, by decide +kernel, by decide +kernel, by decide +kernel, by decide⟩
theorem KV_X11_236 : gKV RX11 236 yX11_toldBy := ⟨w_1153, w_1155, ws_55, w_18⟩
theorem Kc_X11_lowest : gKc yX11_lowest cX11_lowest 11 (some .long) 3 := ⟨w_1163, by decide +kernel, by decide +kernel, by decide +kernel, by decide⟩
theorem KS_X11_239 : gKS RX11 239 yX11_lowest := ⟨w_1161, w_1162, w_18⟩
theorem Kc_X11_sheetWrong : gKc yX11_sheetWrong cX11_sheetWrong 2 (some .int) 1 := ⟨w_1172, by decide +kernel, by decide +kernel, by decide +kernel, by decide⟩
theorem KV_X11_245 : gKV RX11 245 yX11_sheetWrong := ⟨w_1169, w_1171, ws_56, w_18⟩
theorem Kc_X11_unlike : gKc yX11_unlike cX11_unlike 4 (some .int) 1 := ⟨w_1176, by decide +kernel, by decide +kernel, by decide +kernel, by decide⟩
theorem KV_X11_248 : gKV RX11 248 yX11_unlike := ⟨w_1173, w_1175, ws_57, w_18⟩
theorem Kc_X11_quarters : gKc yX11_quarters cX11_quarters 7 (some .int) 1 := ⟨w_1209, by decide +kernel, by decide +kernel, by decide +kernel, by decide⟩
theorem KV_X11_263 : gKV RX11 263 yX11_quarters := ⟨w_1206, w_1208, ws_58, w_18⟩
theorem KV_X11_270 : gKV RX11 270 yX11_citizen := ⟨w_1242, w_1044, w_1045, w_18⟩
theorem Kc_X11_isUnder : gKc yX11_isUnder cX11_isUnder 2 (some .boolean) 2 := ⟨w_1249, by decide +kernel, by decide +kernel, by decide +kernel, by decide⟩
theorem KS_X11_273 : gKS RX11 273 yX11_isUnder := ⟨w_1247, w_1248, w_18⟩
theorem Kc_J0_coder_7d493 : gKc yJ0_coder_7d493 cJ0_coder_7d493 1 (some .byte) 0 := ⟨w_217, by decide +kernel, by decide +kernel, by decide +kernel, by decide⟩
theorem KV_J0_335 : gKV RJ0 335 yJ0_coder_7d493 := ⟨w_214, w_215, w_216, w_12⟩
theorem Kc_J0_isLatin1_aae02 : gKc yJ0_isLatin1_aae02 cJ0_isLatin1_aae02 1 (some .boolean) 0 := ⟨w_227, by decide +kernel, by decide +kernel, by decide +kernel, by decide⟩
theorem KV_J0_492 : gKV RJ0 492 yJ0_isLatin1_aae02 := ⟨w_224, w_225, w_226, w_12⟩
theorem Kc_J1_charAt_3b067 : gKc yJ1_charAt_3b067 cJ1_charAt_3b067 2 (some .char) 2 := ⟨w_230, by decide +kernel, by decide +kernel, by decide +kernel, by decide⟩
theorem KS_J0_495 : gKS RJ0 495 yJ1_charAt_3b067 := ⟨w_228, w_229, w_13⟩
theorem Kc_J2_charAt_3b067 : gKc yJ2_charAt_3b067 cJ2_charAt_3b067 2 (some .char) 2 := ⟨w_241, by decide +kernel, by decide +kernel, by decide +kernel, by decide⟩
theorem KS_J0_498 : gKS RJ0 498 yJ2_charAt_3b067 := ⟨w_239, w_240, w_15⟩
theorem KV_J0_505 : gKV RJ0 505 yJ0_length_8abf5 := ⟨w_309, w_211, w_212, w_12⟩
theorem Kc_J0_indexOf_7cf53 : gKc yJ0_indexOf_7cf53 cJ0_indexOf_7cf53 3 (some .int) 2 := ⟨w_308, by decide +kernel, by decide +kernel, by decide +kernel, by decide⟩
theorem KV_J0_633 : gKV RJ0 633 yJ0_indexOf_7cf53 := ⟨w_305, w_306, w_307, w_12⟩
theorem Kc_J1_indexOf_4cfef : gKc yJ1_indexOf_4cfef cJ1_indexOf_4cfef 4 (some .int) 4 := ⟨w_312, by decide +kernel, by decide +kernel, by decide +kernel, by decide⟩
theorem KS_J0_637 : gKS RJ0 637 yJ1_indexOf_4cfef := ⟨w_310, w_311, w_13⟩
theorem Kc_J2_indexOf_4cfef : gKc yJ2_indexOf_4cfef cJ2_indexOf_4cfef 4 (some .int) 4 := ⟨w_327, by decide +kernel, by decide +kernel, by decide +kernel, by decide⟩
theorem KS_J0_640 : gKS RJ0 640 yJ2_indexOf_4cfef := ⟨w_325, w_326, w_15⟩
theorem Kc_J3_checkIndex_8e157 : gKc yJ3_checkIndex_8e157 cJ3_checkIndex_8e157 3 (some .int) 3 := ⟨w_238, by decide +kernel, by decide +kernel, by decide +kernel, by decide⟩
theorem KS_J0_1059 : gKS RJ0 1059 yJ3_checkIndex_8e157 := ⟨w_236, w_237, w_14⟩
theorem Kc_J3_checkFromToIndex_8c36e : gKc yJ3_checkFromToIndex_8c36e cJ3_checkFromToIndex_8c36e 4 (some .int) 4 := ⟨w_342, by decide +kernel, by decide +kernel, by decide +kernel, by decide⟩
theorem KS_J0_1062 : gKS RJ0 1062 yJ3_checkFromToIndex_8c36e := ⟨w_340, w_341, w_14⟩
theorem Kc_J0_checkIndex_df160 : gKc yJ0_checkIndex_df160 cJ0_checkIndex_df160 2 none 2 := ⟨w_233, by decide +kernel, by decide +kernel, by decide +kernel, by decide⟩
theorem KS_J1_9 : gKS RJ1 9 yJ0_checkIndex_df160 := ⟨w_231, w_232, w_12⟩
theorem KS_J1_38 : gKS RJ1 38 yJ9_min_7cf53 := ⟨w_319, w_320, w_16⟩
theorem Kc_J1_canEncode_9a6ad : gKc yJ1_canEncode_9a6ad cJ1_canEncode_9a6ad 1 (some .boolean) 1 := ⟨w_315, by decide +kernel, by decide +kernel, by decide +kernel, by decide⟩
theorem KS_J1_88 : gKS RJ1 88 yJ1_canEncode_9a6ad := ⟨w_313, w_314, w_13⟩
theorem KS_J1_92 : gKS RJ1 92 yJ9_max_7cf53 := ⟨w_316, w_317, w_16⟩
theorem Kc_J1_indexOfChar_4cfef : gKc yJ1_indexOfChar_4cfef cJ1_indexOfChar_4cfef 6 (some .int) 4 := ⟨w_324, by decide +kernel, by decide +kernel, by decide +kernel, by decide⟩
theorem KS_J1_95 : gKS RJ1 95 yJ1_indexOfChar_4cfef := ⟨w_322, w_323, w_13⟩
theorem Kc_J2_length_9d52b : gKc yJ2_length_9d52b cJ2_length_9d52b 1 (some .int) 1 := ⟨w_247, by decide +kernel, by decide +kernel, by decide +kernel, by decide⟩
theorem KS_J2_48 : gKS RJ2 48 yJ2_length_9d52b := ⟨w_245, w_246, w_15⟩
theorem Kc_J2_checkIndex_2214a : gKc yJ2_checkIndex_2214a cJ2_checkIndex_2214a 2 none 2 := ⟨w_244, by decide +kernel, by decide +kernel, by decide +kernel, by decide⟩
theorem KS_J2_67 : gKS RJ2 67 yJ2_checkIndex_2214a := ⟨w_242, w_243, w_15⟩
theorem Kc_J2_getChar_3b067 : gKc yJ2_getChar_3b067 cJ2_getChar_3b067 2 (some .char) 2 := ⟨w_251, by decide +kernel, by decide +kernel, by decide +kernel, by decide⟩
theorem KS_J2_71 : gKS RJ2 71 yJ2_getChar_3b067 := ⟨w_249, w_250, w_15⟩
theorem Kc_J2_checkBoundsBeginEnd_d044e : gKc yJ2_checkBoundsBeginEnd_d044e cJ2_checkBoundsBeginEnd_d044e 3 none 3 := ⟨w_336, by decide +kernel, by decide +kernel, by decide +kernel, by decide⟩
theorem KS_J2_96 : gKS RJ2 96 yJ2_checkBoundsBeginEnd_d044e := ⟨w_334, w_335, w_15⟩
theorem Kc_J11_highSurrogate_5068e : gKc yJ11_highSurrogate_5068e cJ11_highSurrogate_5068e 1 (some .char) 1 := ⟨w_354, by decide +kernel, by decide +kernel, by decide +kernel, by decide⟩
theorem KS_J2_157 : gKS RJ2 157 yJ11_highSurrogate_5068e := ⟨w_352, w_353, w_17⟩
theorem Kc_J11_lowSurrogate_5068e : gKc yJ11_lowSurrogate_5068e cJ11_lowSurrogate_5068e 1 (some .char) 1 := ⟨w_358, by decide +kernel, by decide +kernel, by decide +kernel, by decide⟩
theorem KS_J2_161 : gKS RJ2 161 yJ11_lowSurrogate_5068e := ⟨w_356, w_357, w_17⟩
theorem Kc_J11_isValidCodePoint_9a6ad : gKc yJ11_isValidCodePoint_9a6ad cJ11_isValidCodePoint_9a6ad 2 (some .boolean) 1 := ⟨w_351, by decide +kernel, by decide +kernel, by decide +kernel, by decide⟩
theorem KS_J2_164 : gKS RJ2 164 yJ11_isValidCodePoint_9a6ad := ⟨w_349, w_350, w_17⟩
theorem KS_J2_183 : gKS RJ2 183 yJ9_min_7cf53 := ⟨w_329, w_320, w_16⟩
theorem KS_J2_224 : gKS RJ2 224 yJ9_max_7cf53 := ⟨w_328, w_317, w_16⟩
theorem Kc_J2_indexOfChar_4cfef : gKc yJ2_indexOfChar_4cfef cJ2_indexOfChar_4cfef 4 (some .int) 4 := ⟨w_333, by decide +kernel, by decide +kernel, by decide +kernel, by decide⟩
theorem KS_J2_228 : gKS RJ2 228 yJ2_indexOfChar_4cfef := ⟨w_331, w_332, w_15⟩
theorem Kc_J2_indexOfSupplementary_4cfef : gKc yJ2_indexOfSupplementary_4cfef cJ2_indexOfSupplementary_4cfef 7 (some .int) 4 := ⟨w_348, by decide +kernel, by decide +kernel, by decide +kernel, by decide⟩
theorem KS_J2_232 : gKS RJ2 232 yJ2_indexOfSupplementary_4cfef := ⟨w_346, w_347, w_15⟩
theorem Kc_J0_checkBoundsBeginEnd_23922 : gKc yJ0_checkBoundsBeginEnd_23922 cJ0_checkBoundsBeginEnd_23922 3 none 3 := ⟨w_339, by decide +kernel, by decide +kernel, by decide +kernel, by decide⟩
theorem KS_J2_241 : gKS RJ2 241 yJ0_checkBoundsBeginEnd_23922 := ⟨w_337, w_338, w_12⟩
theorem Kc_J2_indexOfCharUnsafe_4cfef : gKc yJ2_indexOfCharUnsafe_4cfef cJ2_indexOfCharUnsafe_4cfef 5 (some .int) 4 := ⟨w_345, by decide +kernel, by decide +kernel, by decide +kernel, by decide⟩
theorem KS_J2_244 : gKS RJ2 244 yJ2_indexOfCharUnsafe_4cfef := ⟨w_343, w_344, w_15⟩
theorem KS_J2_414 : gKS RJ2 414 yJ0_checkIndex_df160 := ⟨w_248, w_232, w_12⟩
