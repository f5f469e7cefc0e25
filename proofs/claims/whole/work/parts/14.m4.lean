theorem dX9_name_0 : decode cX9_name 0 = .ok (.aload_n 0, 1) := by decide +kernel
theorem dX9_name_1 : decode cX9_name 1 = .ok (.getfield 37, 3) := by decide +kernel
theorem dX9_name_4 : decode cX9_name 4 = .ok (.iconst 0, 1) := by decide +kernel
theorem dX9_name_5 : decode cX9_name 5 = .ok (.iload_n 2, 1) := by decide +kernel
theorem dX9_name_6 : decode cX9_name 6 = .ok (.iastore, 1) := by decide +kernel
theorem dX9_name_7 : decode cX9_name 7 = .ok (.aload_n 0, 1) := by decide +kernel
theorem dX9_name_8 : decode cX9_name 8 = .ok (.getfield 37, 3) := by decide +kernel
theorem dX9_name_11 : decode cX9_name 11 = .ok (.iconst 1, 1) := by decide +kernel
theorem dX9_name_12 : decode cX9_name 12 = .ok (.aload_n 0, 1) := by decide +kernel
theorem dX9_name_13 : decode cX9_name 13 = .ok (.getfield 19, 3) := by decide +kernel
theorem dX9_name_16 : decode cX9_name 16 = .ok (.iload_n 1, 1) := by decide +kernel
theorem dX9_name_17 : decode cX9_name 17 = .ok (.iaload, 1) := by decide +kernel
theorem dX9_name_18 : decode cX9_name 18 = .ok (.iastore, 1) := by decide +kernel
theorem dX9_name_19 : decode cX9_name 19 = .ok (.aload_n 0, 1) := by decide +kernel
theorem dX9_name_20 : decode cX9_name 20 = .ok (.getfield 37, 3) := by decide +kernel
theorem dX9_name_23 : decode cX9_name 23 = .ok (.iconst 2, 1) := by decide +kernel
theorem dX9_name_24 : decode cX9_name 24 = .ok (.aload_n 0, 1) := by decide +kernel
theorem dX9_name_25 : decode cX9_name 25 = .ok (.getfield 25, 3) := by decide +kernel
theorem dX9_name_28 : decode cX9_name 28 = .ok (.iload_n 1, 1) := by decide +kernel
theorem dX9_name_29 : decode cX9_name 29 = .ok (.iaload, 1) := by decide +kernel
theorem dX9_name_30 : decode cX9_name 30 = .ok (.invokestatic 76, 3) := by decide +kernel
theorem dX9_name_33 : decode cX9_name 33 = .ok (.iastore, 1) := by decide +kernel
theorem dX9_name_34 : decode cX9_name 34 = .ok (.aload_n 0, 1) := by decide +kernel
theorem dX9_name_35 : decode cX9_name 35 = .ok (.getfield 37, 3) := by decide +kernel
theorem dX9_name_38 : decode cX9_name 38 = .ok (.iconst 3, 1) := by decide +kernel
theorem dX9_name_39 : decode cX9_name 39 = .ok (.aload_n 0, 1) := by decide +kernel
theorem dX9_name_40 : decode cX9_name 40 = .ok (.getfield 22, 3) := by decide +kernel
theorem dX9_name_43 : decode cX9_name 43 = .ok (.iload_n 1, 1) := by decide +kernel
theorem dX9_name_44 : decode cX9_name 44 = .ok (.iaload, 1) := by decide +kernel
theorem dX9_name_45 : decode cX9_name 45 = .ok (.invokestatic 76, 3) := by decide +kernel
theorem dX9_name_48 : decode cX9_name 48 = .ok (.iastore, 1) := by decide +kernel
theorem dX9_name_49 : decode cX9_name 49 = .ok (.aload_n 0, 1) := by decide +kernel
theorem dX9_name_50 : decode cX9_name 50 = .ok (.getfield 37, 3) := by decide +kernel
theorem dX9_name_53 : decode cX9_name 53 = .ok (.iconst 4, 1) := by decide +kernel
theorem dX9_name_54 : decode cX9_name 54 = .ok (.aload_n 0, 1) := by decide +kernel
theorem dX9_name_55 : decode cX9_name 55 = .ok (.getfield 48, 3) := by decide +kernel
theorem dX9_name_58 : decode cX9_name 58 = .ok (.iastore, 1) := by decide +kernel
theorem dX9_name_59 : decode cX9_name 59 = .ok (.aload_n 0, 1) := by decide +kernel
theorem dX9_name_60 : decode cX9_name 60 = .ok (.getfield 37, 3) := by decide +kernel
theorem dX9_name_63 : decode cX9_name 63 = .ok (.iconst 5, 1) := by decide +kernel
theorem dX9_name_64 : decode cX9_name 64 = .ok (.aload_n 0, 1) := by decide +kernel
theorem dX9_name_65 : decode cX9_name 65 = .ok (.getfield 34, 3) := by decide +kernel
theorem dX9_name_68 : decode cX9_name 68 = .ok (.iload_n 1, 1) := by decide +kernel
theorem dX9_name_69 : decode cX9_name 69 = .ok (.iaload, 1) := by decide +kernel
theorem dX9_name_70 : decode cX9_name 70 = .ok (.iastore, 1) := by decide +kernel
theorem dX9_name_71 : decode cX9_name 71 = .ok (.return_, 1) := by decide +kernel
set_option maxHeartbeats 4000000 in
set_option maxRecDepth 100000 in
theorem c_X9_name (d : Nat) (TX : gTX) (nT n l w : Nat) (P s : gS) (hI : cI TX nT n l w P s) (x : Int32) (p : Nat) (hx : x = nI p) (hp : p < n) (bad : Int32) : gMt SC yX9_name cX9_name 3 none (d + 2) (fun ad => [.ref (ad w), .int x, .int bad]) s (gQv SC (fun s' => Fr mS s s' ∧ ∀ i, i < 6 → s' (w + 8) i = x_nm P p bad i)) := by
  have hw := hI.1
  have hn6 : n ≤ 6 := hI.2.2.1.2.1
  have hl6 : l < 6 := cI_l6 hI
  refine gMt_of SC_ok (by decide +kernel) (fun ad => [some (.ref (ad w)), some (.int x), some (.int bad)]) (fun _ => rfl) (fun _ => rfl) (fun _ => Nat.le_of_ble_eq_true rfl) (fun E C0 => ?_)
  have C : gCx SC E RX9 cX9_name 3 none (d + 2) := C0
  have i : cI TX nT n l w P s := hI
  have f : Fr mS s s := Fr.rf
  refine G_aload_n (i := 0) C 1 dX9_name_0 rfl rfl rfl ?_
  refine X9_37g C hw 4 dX9_name_1 rfl ?_
  refine G_iconst (v := 0) C 5 dX9_name_4 rfl rfl ?_
  refine G_iload_n (i := 2) C 6 dX9_name_5 rfl rfl rfl ?_
  refine G_iast (n := 6) C 7 (lW hw (by decide)) (fun σ => eW8 _ _ σ hw) (0) rfl (by omega) (by decide) (Nat.le_of_eq (nWi hw (by decide) (by decide)).symm) dX9_name_6 rfl (fun s6 es6 => ?_)
  have i_1 : cI TX nT n l w P s6 := cI_fr i (Fr.up es6 (mS_nam hw))
  have f_1 : Fr mS s s6 := Fr.tr f (Fr.up es6 (mS_nam hw))
  refine G_aload_n (i := 0) C 8 dX9_name_7 rfl rfl rfl ?_
  refine X9_37g C hw 11 dX9_name_8 rfl ?_
  refine G_iconst (v := 1) C 12 dX9_name_11 rfl rfl ?_
  refine G_aload_n (i := 0) C 13 dX9_name_12 rfl rfl rfl ?_
  refine X9_19g C hw 16 dX9_name_13 rfl ?_
  refine G_iload_n (i := 1) C 17 dX9_name_16 rfl rfl rfl ?_
  refine G_iald (n := 6) C 18 (lW hw (by decide)) (eW2 _ _ _ hw) (p) hx (by omega) (by decide) dX9_name_17 rfl (fun x17 ex17 => ?_)
  have Sx17 : x17 = P 2 (p) := ex17.trans (congrFun (congrFun i_1.2.1 2) _)
  refine G_iast (n := 6) C 19 (lW hw (by decide)) (fun σ => eW8 _ _ σ hw) (1) rfl (by omega) (by decide) (Nat.le_of_eq (nWi hw (by decide) (by decide)).symm) dX9_name_18 rfl (fun s18 es18 => ?_)
  have i_2 : cI TX nT n l w P s18 := cI_fr i_1 (Fr.up es18 (mS_nam hw))
  have f_2 : Fr mS s s18 := Fr.tr f_1 (Fr.up es18 (mS_nam hw))
  refine G_aload_n (i := 0) C 20 dX9_name_19 rfl rfl rfl ?_
  refine X9_37g C hw 23 dX9_name_20 rfl ?_
  refine G_iconst (v := 2) C 24 dX9_name_23 rfl rfl ?_
  refine G_aload_n (i := 0) C 25 dX9_name_24 rfl rfl rfl ?_
  refine X9_25g C hw 28 dX9_name_25 rfl ?_
  refine G_iload_n (i := 1) C 29 dX9_name_28 rfl rfl rfl ?_
  refine G_iald (n := 6) C 30 (lW hw (by decide)) (eW4 _ _ _ hw) (p) hx (by omega) (by decide) dX9_name_29 rfl (fun x29 ex29 => ?_)
  have Sx29 : x29 = P 4 (p) := ex29.trans (congrFun (congrFun i_2.2.1 4) _)
  obtain ⟨mx29, hmx29, emx29⟩ := (cI_p i_2 (p := p) (by omega)).2.2
  refine G_calli 33 (G_runS C Kc_J6_bitCount_0f7a4 KS_X9_76 (by omega) (c_J6_bitCount_0f7a4 0 mx29 (by omega) x29 (Sx29.trans emx29) s18) rfl rfl (Nat.le_of_ble_eq_true rfl) rfl dX9_name_30) rfl (fun x30 s30 h30 => ?_)
  obtain ⟨es30, h30⟩ := h30
  have es30 := es30.symm
  subst es30
  refine G_iast (n := 6) C 34 (lW hw (by decide)) (fun σ => eW8 _ _ σ hw) (2) rfl (by omega) (by decide) (Nat.le_of_eq (nWi hw (by decide) (by decide)).symm) dX9_name_33 rfl (fun s33 es33 => ?_)
  have i_3 : cI TX nT n l w P s33 := cI_fr i_2 (Fr.up es33 (mS_nam hw))
  have f_3 : Fr mS s s33 := Fr.tr f_2 (Fr.up es33 (mS_nam hw))
  refine G_aload_n (i := 0) C 35 dX9_name_34 rfl rfl rfl ?_
  refine X9_37g C hw 38 dX9_name_35 rfl ?_
  refine G_iconst (v := 3) C 39 dX9_name_38 rfl rfl ?_
  refine G_aload_n (i := 0) C 40 dX9_name_39 rfl rfl rfl ?_
  refine X9_22g C hw 43 dX9_name_40 rfl ?_
  refine G_iload_n (i := 1) C 44 dX9_name_43 rfl rfl rfl ?_
  refine G_iald (n := 6) C 45 (lW hw (by decide)) (eW3 _ _ _ hw) (p) hx (by omega) (by decide) dX9_name_44 rfl (fun x44 ex44 => ?_)
  have Sx44 : x44 = P 3 (p) := ex44.trans (congrFun (congrFun i_3.2.1 3) _)
  obtain ⟨mx44, hmx44, emx44⟩ := (cI_p i_3 (p := p) (by omega)).2.1
  refine G_calli 48 (G_runS C Kc_J6_bitCount_0f7a4 KS_X9_76 (by omega) (c_J6_bitCount_0f7a4 0 mx44 (by omega) x44 (Sx44.trans emx44) s33) rfl rfl (Nat.le_of_ble_eq_true rfl) rfl dX9_name_45) rfl (fun x45 s45 h45 => ?_)
  obtain ⟨es45, h45⟩ := h45
  have es45 := es45.symm
  subst es45
  refine G_iast (n := 6) C 49 (lW hw (by decide)) (fun σ => eW8 _ _ σ hw) (3) rfl (by omega) (by decide) (Nat.le_of_eq (nWi hw (by decide) (by decide)).symm) dX9_name_48 rfl (fun s48 es48 => ?_)
  have i_4 : cI TX nT n l w P s48 := cI_fr i_3 (Fr.up es48 (mS_nam hw))
  have f_4 : Fr mS s s48 := Fr.tr f_3 (Fr.up es48 (mS_nam hw))
  refine G_aload_n (i := 0) C 50 dX9_name_49 rfl rfl rfl ?_
  refine X9_37g C hw 53 dX9_name_50 rfl ?_
  refine G_iconst (v := 4) C 54 dX9_name_53 rfl rfl ?_
  refine G_aload_n (i := 0) C 55 dX9_name_54 rfl rfl rfl ?_
  refine X9_48g C hw 58 dX9_name_55 rfl (fun x55 ex55 => ?_)
  have Sx55 : x55 = P 0 0 := ex55.trans (cI_v i_4 0 0)
  refine G_iast (n := 6) C 59 (lW hw (by decide)) (fun σ => eW8 _ _ σ hw) (4) rfl (by omega) (by decide) (Nat.le_of_eq (nWi hw (by decide) (by decide)).symm) dX9_name_58 rfl (fun s58 es58 => ?_)
  have i_5 : cI TX nT n l w P s58 := cI_fr i_4 (Fr.up es58 (mS_nam hw))
  have f_5 : Fr mS s s58 := Fr.tr f_4 (Fr.up es58 (mS_nam hw))
  refine G_aload_n (i := 0) C 60 dX9_name_59 rfl rfl rfl ?_
  refine X9_37g C hw 63 dX9_name_60 rfl ?_
  refine G_iconst (v := 5) C 64 dX9_name_63 rfl rfl ?_
  refine G_aload_n (i := 0) C 65 dX9_name_64 rfl rfl rfl ?_
  refine X9_34g C hw 68 dX9_name_65 rfl ?_
  refine G_iload_n (i := 1) C 69 dX9_name_68 rfl rfl rfl ?_
  refine G_iald (n := 6) C 70 (lW hw (by decide)) (eW7 _ _ _ hw) (p) hx (by omega) (by decide) dX9_name_69 rfl (fun x69 ex69 => ?_)
  have Sx69 : x69 = P 7 (p) := ex69.trans (cI_7 i_5 (by omega))
  refine G_iast (n := 6) C 71 (lW hw (by decide)) (fun σ => eW8 _ _ σ hw) (5) rfl (by omega) (by decide) (Nat.le_of_eq (nWi hw (by decide) (by decide)).symm) dX9_name_70 rfl (fun s70 es70 => ?_)
  have i_6 : cI TX nT n l w P s70 := cI_fr i_5 (Fr.up es70 (mS_nam hw))
  have f_6 : Fr mS s s70 := Fr.tr f_5 (Fr.up es70 (mS_nam hw))
  exact G_vret C dX9_name_71 (⟨f_6, fun i hi => by
      have : i = 0 ∨ i = 1 ∨ i = 2 ∨ i = 3 ∨ i = 4 ∨ i = 5 := by omega
      rw [es70, es58, es48, es33, es18, es6]
      rcases this with rfl | rfl | rfl | rfl | rfl | rfl <;> simp [g_up, g_set, upd, x_nm, Sx17, Sx55, Sx69, h30, h45, Sx29, Sx44]⟩)
theorem dX9_nature_0 : decode cX9_nature 0 = .ok (.aload_n 0, 1) := by decide +kernel
theorem dX9_nature_1 : decode cX9_nature 1 = .ok (.getfield 44, 3) := by decide +kernel
theorem dX9_nature_4 : decode cX9_nature 4 = .ok (.aload_n 0, 1) := by decide +kernel
theorem dX9_nature_5 : decode cX9_nature 5 = .ok (.getfield 31, 3) := by decide +kernel
theorem dX9_nature_8 : decode cX9_nature 8 = .ok (.iload_n 1, 1) := by decide +kernel
theorem dX9_nature_9 : decode cX9_nature 9 = .ok (.iaload, 1) := by decide +kernel
theorem dX9_nature_10 : decode cX9_nature 10 = .ok (.aaload, 1) := by decide +kernel
theorem dX9_nature_11 : decode cX9_nature 11 = .ok (.areturn, 1) := by decide +kernel
set_option maxHeartbeats 4000000 in
set_option maxRecDepth 100000 in
theorem c_X9_nature (d : Nat) (TX : gTX) (nT n l w : Nat) (P s : gS) (hI : cI TX nT n l w P s) (x : Int32) (p : Nat) (hx : x = nI p) (hp : p < n) : gMt SC yX9_nature cX9_nature 2 (some (.object "CrierOfBorough$Citizen")) (d + 1) (fun ad => [.ref (ad w), .int x]) s (gQr SC (fun k s' => s' = s ∧ ∃ kd, kd < 6 ∧ P 6 p = nI kd ∧ k = 39 + kd)) := by
  have hw := hI.1
  have hn6 : n ≤ 6 := hI.2.2.1.2.1
  have hl6 : l < 6 := cI_l6 hI
  refine gMt_of SC_ok (by decide +kernel) (fun ad => [some (.ref (ad w)), some (.int x)]) (fun _ => rfl) (fun _ => rfl) (fun _ => Nat.le_of_ble_eq_true rfl) (fun E C0 => ?_)
  have C : gCx SC E RX9 cX9_nature 2 (some (.object "CrierOfBorough$Citizen")) (d + 1) := C0
  have i : cI TX nT n l w P s := hI
  have f : Fr mS s s := Fr.rf
  refine G_aload_n (i := 0) C 1 dX9_nature_0 rfl rfl rfl ?_
  refine X9_44g C hw 4 dX9_nature_1 rfl ?_
  refine G_aload_n (i := 0) C 5 dX9_nature_4 rfl rfl rfl ?_
  refine X9_31g C hw 8 dX9_nature_5 rfl ?_
  refine G_iload_n (i := 1) C 9 dX9_nature_8 rfl rfl rfl ?_
  refine G_iald (n := 6) C 10 (lW hw (by decide)) (eW6 _ _ _ hw) (p) hx (by omega) (by decide) dX9_nature_9 rfl (fun x9 ex9 => ?_)
  have Sx9 : x9 = P 6 (p) := ex9.trans (cI_6 i (by omega))
  obtain ⟨kdx9, hkdx9, ekdx9⟩ := (cI_p i (p := p) (by omega)).1
  refine G_aald (r := (39 + kdx9)) C 11 (by decide) (eNa _ _ _) (fun _ => rfl) (kdx9) (Sx9.trans ekdx9) (by omega) (by decide) rfl dX9_nature_10 rfl ?_
  exact G_aret C (by first | exact Or.inl ⟨_, rfl⟩ | exact Or.inr ⟨_, rfl⟩) dX9_nature_11 (⟨rfl, kdx9, hkdx9, ekdx9, rfl⟩)
theorem dX9_saidOf_0 : decode cX9_saidOf 0 = .ok (.aload_n 0, 1) := by decide +kernel
theorem dX9_saidOf_1 : decode cX9_saidOf 1 = .ok (.iload_n 2, 1) := by decide +kernel
theorem dX9_saidOf_2 : decode cX9_saidOf 2 = .ok (.iload_n 3, 1) := by decide +kernel
theorem dX9_saidOf_3 : decode cX9_saidOf 3 = .ok (.invokevirtual 66, 3) := by decide +kernel
theorem dX9_saidOf_6 : decode cX9_saidOf 6 = .ok (.aload_n 0, 1) := by decide +kernel
theorem dX9_saidOf_7 : decode cX9_saidOf 7 = .ok (.getfield 40, 3) := by decide +kernel
theorem dX9_saidOf_10 : decode cX9_saidOf 10 = .ok (.aload_n 0, 1) := by decide +kernel
theorem dX9_saidOf_11 : decode cX9_saidOf 11 = .ok (.getfield 54, 3) := by decide +kernel
theorem dX9_saidOf_14 : decode cX9_saidOf 14 = .ok (.aaload, 1) := by decide +kernel
theorem dX9_saidOf_15 : decode cX9_saidOf 15 = .ok (.iload_n 1, 1) := by decide +kernel
theorem dX9_saidOf_16 : decode cX9_saidOf 16 = .ok (.aload_n 0, 1) := by decide +kernel
theorem dX9_saidOf_17 : decode cX9_saidOf 17 = .ok (.getfield 37, 3) := by decide +kernel
theorem dX9_saidOf_20 : decode cX9_saidOf 20 = .ok (.invokevirtual 70, 3) := by decide +kernel
theorem dX9_saidOf_23 : decode cX9_saidOf 23 = .ok (.ireturn, 1) := by decide +kernel
set_option maxHeartbeats 4000000 in
set_option maxRecDepth 100000 in
theorem c_X9_saidOf (d : Nat) (TX : gTX) (nT n l w : Nat) (P s : gS) (hI : cI TX nT n l w P s) (pt : Int32) (j : Nat) (hpt : pt = nI j) (hj : j < 3) (x : Int32) (p : Nat) (hx : x = nI p) (hp : p < n) (bad : Int32) : gMt SC yX9_saidOf cX9_saidOf 4 (some .int) (d + 4) (fun ad => [.ref (ad w), .int pt, .int x, .int bad]) s (gQi SC (fun r s' => Fr mS s s' ∧ r = x_asks TX P j p bad)) := by
  have hw := hI.1
  have hn6 : n ≤ 6 := hI.2.2.1.2.1
  have hl6 : l < 6 := cI_l6 hI
  refine gMt_of SC_ok (by decide +kernel) (fun ad => [some (.ref (ad w)), some (.int pt), some (.int x), some (.int bad)]) (fun _ => rfl) (fun _ => rfl) (fun _ => Nat.le_of_ble_eq_true rfl) (fun E C0 => ?_)
  have C : gCx SC E RX9 cX9_saidOf 4 (some .int) (d + 4) := C0
  have i : cI TX nT n l w P s := hI
  have f : Fr mS s s := Fr.rf
  refine G_aload_n (i := 0) C 1 dX9_saidOf_0 rfl rfl rfl ?_
  refine G_iload_n (i := 2) C 2 dX9_saidOf_1 rfl rfl rfl ?_
  refine G_iload_n (i := 3) C 3 dX9_saidOf_2 rfl rfl rfl ?_
  refine G_callv 6 (G_runV C Kc_X9_name KV_X9_66 (by omega) (lW0 hw) (eW _ _ _ hw) rfl (c_X9_name 0 TX nT n l w P s i x p hx (by omega) bad) rfl rfl rfl (Nat.le_of_ble_eq_true rfl) rfl dX9_saidOf_3) rfl (fun s3 h3 => ?_)
  have i_1 : cI TX nT n l w P s3 := cI_fr i (h3.1)
  have f_1 : Fr mS s s3 := Fr.tr f (h3.1)
  refine G_aload_n (i := 0) C 7 dX9_saidOf_6 rfl rfl rfl ?_
  refine X9_40g C hw 10 dX9_saidOf_7 rfl ?_
  refine G_aload_n (i := 0) C 11 dX9_saidOf_10 rfl rfl rfl ?_
  refine X9_54g C hw 14 dX9_saidOf_11 rfl (fun x11 ex11 => ?_)
  have Sx11 : x11 = nI l := ex11.trans ((cI_v i_1 0 3).trans i_1.2.2.1.2.2.1)
  refine G_aald (r := (6 + 4 * l)) C 15 (by decide) (eC1 _ _ _) (fun _ => rfl) (l) Sx11 (by omega) (by decide) rfl dX9_saidOf_14 rfl ?_
  refine G_iload_n (i := 1) C 16 dX9_saidOf_15 rfl rfl rfl ?_
  refine G_aload_n (i := 0) C 17 dX9_saidOf_16 rfl rfl rfl ?_
  refine X9_37g C hw 20 dX9_saidOf_17 rfl ?_
  refine G_calli 23 (G_runV C Kc_X7_says KV_X9_70 (by omega) (lT0 (by omega)) (eTx _ _ _ (by omega)) rfl (c_X7_says 0 TX l w j hl6 hw (by omega) pt hpt s3 (cI_t i_1) (cI_h i_1 (by omega))) rfl rfl rfl (Nat.le_of_ble_eq_true rfl) rfl dX9_saidOf_20) rfl (fun x20 s20 h20 => ?_)
  have i_2 : cI TX nT n l w P s20 := cI_fr i_1 (Fr.val hl6 h20.1)
  have f_2 : Fr mS s s20 := Fr.tr f_1 (Fr.val hl6 h20.1)
  exact G_iret C dX9_saidOf_23 (⟨f_2, h20.2.trans (x_asksE hI hj h3.2)⟩)
theorem dX9_listens_0 : decode cX9_listens 0 = .ok (.aload_n 0, 1) := by decide +kernel
theorem dX9_listens_1 : decode cX9_listens 1 = .ok (.iload_n 1, 1) := by decide +kernel
theorem dX9_listens_2 : decode cX9_listens 2 = .ok (.invokevirtual 86, 3) := by decide +kernel
theorem dX9_listens_5 : decode cX9_listens 5 = .ok (.aload_n 0, 1) := by decide +kernel
theorem dX9_listens_6 : decode cX9_listens 6 = .ok (.getfield 28, 3) := by decide +kernel
theorem dX9_listens_9 : decode cX9_listens 9 = .ok (.iload_n 1, 1) := by decide +kernel
theorem dX9_listens_10 : decode cX9_listens 10 = .ok (.iaload, 1) := by decide +kernel
theorem dX9_listens_11 : decode cX9_listens 11 = .ok (.iconst 1, 1) := by decide +kernel
theorem dX9_listens_12 : decode cX9_listens 12 = .ok (.if_icmp .ne 7, 3) := by decide +kernel
theorem dX9_listens_15 : decode cX9_listens 15 = .ok (.iconst 1, 1) := by decide +kernel
theorem dX9_listens_16 : decode cX9_listens 16 = .ok (.goto 4, 3) := by decide +kernel
theorem dX9_listens_19 : decode cX9_listens 19 = .ok (.iconst 0, 1) := by decide +kernel
theorem dX9_listens_20 : decode cX9_listens 20 = .ok (.aload_n 0, 1) := by decide +kernel
theorem dX9_listens_21 : decode cX9_listens 21 = .ok (.getfield 34, 3) := by decide +kernel
theorem dX9_listens_24 : decode cX9_listens 24 = .ok (.iload_n 1, 1) := by decide +kernel
theorem dX9_listens_25 : decode cX9_listens 25 = .ok (.iaload, 1) := by decide +kernel
theorem dX9_listens_26 : decode cX9_listens 26 = .ok (.aload_n 0, 1) := by decide +kernel
theorem dX9_listens_27 : decode cX9_listens 27 = .ok (.getfield 48, 3) := by decide +kernel
theorem dX9_listens_30 : decode cX9_listens 30 = .ok (.invokevirtual 96, 3) := by decide +kernel
theorem dX9_listens_33 : decode cX9_listens 33 = .ok (.ireturn, 1) := by decide +kernel
set_option maxHeartbeats 4000000 in
set_option maxRecDepth 100000 in
theorem c_X9_listens (d : Nat) (TX : gTX) (nT n l w : Nat) (P s : gS) (hI : cI TX nT n l w P s) (x : Int32) (p : Nat) (hx : x = nI p) (hp : p < n) : gMt SC yX9_listens cX9_listens 2 (some .boolean) (d + 6) (fun ad => [.ref (ad w), .int x]) s (gQi SC (fun r s' => s' = s ∧ r = x_lis P p)) := by
  have hw := hI.1
  have hn6 : n ≤ 6 := hI.2.2.1.2.1
  have hl6 : l < 6 := cI_l6 hI
  refine gMt_of SC_ok (by decide +kernel) (fun ad => [some (.ref (ad w)), some (.int x)]) (fun _ => rfl) (fun _ => rfl) (fun _ => Nat.le_of_ble_eq_true rfl) (fun E C0 => ?_)
  have C : gCx SC E RX9 cX9_listens 2 (some .boolean) (d + 6) := C0
  have i : cI TX nT n l w P s := hI
  have f : Fr mS s s := Fr.rf
  refine G_aload_n (i := 0) C 1 dX9_listens_0 rfl rfl rfl ?_
  refine G_iload_n (i := 1) C 2 dX9_listens_1 rfl rfl rfl ?_
  refine G_callr 5 (G_runV C Kc_X9_nature KV_X9_86 (by omega) (lW0 hw) (eW _ _ _ hw) rfl (c_X9_nature 0 TX nT n l w P s i x p hx (by omega)) rfl rfl rfl (Nat.le_of_ble_eq_true rfl) rfl dX9_listens_2) rfl (fun q2 s2 h2 => ?_)
  obtain ⟨es2, h2⟩ := h2
  have es2 := es2.symm
  subst es2
  obtain ⟨kdq2, hkdq2, ekdq2, rfl⟩ := h2
  refine G_aload_n (i := 0) C 6 dX9_listens_5 rfl rfl rfl ?_
  refine X9_28g C hw 9 dX9_listens_6 rfl ?_
  refine G_iload_n (i := 1) C 10 dX9_listens_9 rfl rfl rfl ?_
  refine G_iald (n := 6) C 11 (lW hw (by decide)) (eW5 _ _ _ hw) (p) hx (by omega) (by decide) dX9_listens_10 rfl (fun x10 ex10 => ?_)
  have Sx10 : x10 = P 5 (p) := ex10.trans (congrFun (congrFun i.2.1 5) _)
  refine G_iconst (v := 1) C 12 dX9_listens_11 rfl rfl ?_
  refine G_icmp_ne C 19 15 dX9_listens_12 rfl rfl (fun c12 => ?_) (fun c12 => ?_)
  ·
    refine G_iconst (v := 0) C 20 dX9_listens_19 rfl rfl ?_
    refine G_aload_n (i := 0) C 21 dX9_listens_20 rfl rfl rfl ?_
    refine X9_34g C hw 24 dX9_listens_21 rfl ?_
    refine G_iload_n (i := 1) C 25 dX9_listens_24 rfl rfl rfl ?_
    refine G_iald (n := 6) C 26 (lW hw (by decide)) (eW7 _ _ _ hw) (p) hx (by omega) (by decide) dX9_listens_25 rfl (fun x25 ex25 => ?_)
    have Sx25 : x25 = P 7 (p) := ex25.trans (cI_7 i (by omega))
    refine G_aload_n (i := 0) C 27 dX9_listens_26 rfl rfl rfl ?_
    refine X9_48g C hw 30 dX9_listens_27 rfl (fun x27 ex27 => ?_)
    have Sx27 : x27 = P 0 0 := ex27.trans (cI_v i 0 0)
    refine G_calli 33 (D_X9_96 C (by omega) kdq2 hkdq2 0 x25 x27 (Or.inl rfl) (Nat.le_of_ble_eq_true rfl) rfl dX9_listens_30) rfl (fun x30 s30 h30 => ?_)
    obtain ⟨es30, h30⟩ := h30
    have es30 := es30.symm
    subst es30
    exact G_zret C (by rw [h30]; exact g_nb (x_hears01 (by first | exact Or.inl rfl | exact Or.inr rfl))) dX9_listens_33 (⟨rfl, by rw [h30, ← ekdq2, Sx25, Sx27]; exact x_hearsU (by rw [← Sx10]; simp [c12])⟩)
  ·
    refine G_iconst (v := 1) C 16 dX9_listens_15 rfl rfl ?_
    refine G_goto C 20 dX9_listens_16 rfl ?_
    refine G_aload_n (i := 0) C 21 dX9_listens_20 rfl rfl rfl ?_
    refine X9_34g C hw 24 dX9_listens_21 rfl ?_
    refine G_iload_n (i := 1) C 25 dX9_listens_24 rfl rfl rfl ?_
    refine G_iald (n := 6) C 26 (lW hw (by decide)) (eW7 _ _ _ hw) (p) hx (by omega) (by decide) dX9_listens_25 rfl (fun x25 ex25 => ?_)
    have Sx25 : x25 = P 7 (p) := ex25.trans (cI_7 i (by omega))
    refine G_aload_n (i := 0) C 27 dX9_listens_26 rfl rfl rfl ?_
    refine X9_48g C hw 30 dX9_listens_27 rfl (fun x27 ex27 => ?_)
    have Sx27 : x27 = P 0 0 := ex27.trans (cI_v i 0 0)
    refine G_calli 33 (D_X9_96 C (by omega) kdq2 hkdq2 1 x25 x27 (Or.inr rfl) (Nat.le_of_ble_eq_true rfl) rfl dX9_listens_30) rfl (fun x30 s30 h30 => ?_)
    obtain ⟨es30, h30⟩ := h30
    have es30 := es30.symm
    subst es30
    exact G_zret C (by rw [h30]; exact g_nb (x_hears01 (by first | exact Or.inl rfl | exact Or.inr rfl))) dX9_listens_33 (⟨rfl, by rw [h30, ← ekdq2, Sx25, Sx27]; exact x_hearsU (by rw [← Sx10]; simp [c12])⟩)
theorem dX9_goes_0 : decode cX9_goes 0 = .ok (.aload_n 0, 1) := by decide +kernel
theorem dX9_goes_1 : decode cX9_goes 1 = .ok (.iload_n 1, 1) := by decide +kernel
theorem dX9_goes_2 : decode cX9_goes 2 = .ok (.invokevirtual 86, 3) := by decide +kernel
theorem dX9_goes_5 : decode cX9_goes 5 = .ok (.aload_n 0, 1) := by decide +kernel
theorem dX9_goes_6 : decode cX9_goes 6 = .ok (.iconst 2, 1) := by decide +kernel
theorem dX9_goes_7 : decode cX9_goes 7 = .ok (.iload_n 1, 1) := by decide +kernel
theorem dX9_goes_8 : decode cX9_goes 8 = .ok (.iconst 0, 1) := by decide +kernel
theorem dX9_goes_9 : decode cX9_goes 9 = .ok (.invokevirtual 100, 3) := by decide +kernel
theorem dX9_goes_12 : decode cX9_goes 12 = .ok (.aload_n 0, 1) := by decide +kernel
theorem dX9_goes_13 : decode cX9_goes 13 = .ok (.getfield 34, 3) := by decide +kernel
theorem dX9_goes_16 : decode cX9_goes 16 = .ok (.iload_n 1, 1) := by decide +kernel
theorem dX9_goes_17 : decode cX9_goes 17 = .ok (.iaload, 1) := by decide +kernel
theorem dX9_goes_18 : decode cX9_goes 18 = .ok (.invokevirtual 104, 3) := by decide +kernel
theorem dX9_goes_21 : decode cX9_goes 21 = .ok (.ireturn, 1) := by decide +kernel
set_option maxHeartbeats 4000000 in
set_option maxRecDepth 100000 in
theorem c_X9_goes (d : Nat) (TX : gTX) (nT n l w : Nat) (P s : gS) (hI : cI TX nT n l w P s) (x : Int32) (p : Nat) (hx : x = nI p) (hp : p < n) : gMt SC yX9_goes cX9_goes 2 (some .int) (d + 6) (fun ad => [.ref (ad w), .int x]) s (gQi SC (fun r s' => Fr mS s s' ∧ r = x_goes TX P p)) := by
  have hw := hI.1
  have hn6 : n ≤ 6 := hI.2.2.1.2.1
  have hl6 : l < 6 := cI_l6 hI
  refine gMt_of SC_ok (by decide +kernel) (fun ad => [some (.ref (ad w)), some (.int x)]) (fun _ => rfl) (fun _ => rfl) (fun _ => Nat.le_of_ble_eq_true rfl) (fun E C0 => ?_)
  have C : gCx SC E RX9 cX9_goes 2 (some .int) (d + 6) := C0
  have i : cI TX nT n l w P s := hI
  have f : Fr mS s s := Fr.rf
  refine G_aload_n (i := 0) C 1 dX9_goes_0 rfl rfl rfl ?_
  refine G_iload_n (i := 1) C 2 dX9_goes_1 rfl rfl rfl ?_
  refine G_callr 5 (G_runV C Kc_X9_nature KV_X9_86 (by omega) (lW0 hw) (eW _ _ _ hw) rfl (c_X9_nature 0 TX nT n l w P s i x p hx (by omega)) rfl rfl rfl (Nat.le_of_ble_eq_true rfl) rfl dX9_goes_2) rfl (fun q2 s2 h2 => ?_)
  obtain ⟨es2, h2⟩ := h2
  have es2 := es2.symm
  subst es2
  obtain ⟨kdq2, hkdq2, ekdq2, rfl⟩ := h2
  refine G_aload_n (i := 0) C 6 dX9_goes_5 rfl rfl rfl ?_
  refine G_iconst (v := 2) C 7 dX9_goes_6 rfl rfl ?_
  refine G_iload_n (i := 1) C 8 dX9_goes_7 rfl rfl rfl ?_
  refine G_iconst (v := 0) C 9 dX9_goes_8 rfl rfl ?_
  refine G_calli 12 (G_runV C Kc_X9_saidOf KV_X9_100 (by omega) (lW0 hw) (eW _ _ _ hw) rfl (c_X9_saidOf 0 TX nT n l w P s i 2 2 rfl (by omega) x p hx (by omega) 0) rfl rfl rfl (Nat.le_of_ble_eq_true rfl) rfl dX9_goes_9) rfl (fun x9 s9 h9 => ?_)
  have i_1 : cI TX nT n l w P s9 := cI_fr i (h9.1)
  have f_1 : Fr mS s s9 := Fr.tr f (h9.1)
  refine G_aload_n (i := 0) C 13 dX9_goes_12 rfl rfl rfl ?_
  refine X9_34g C hw 16 dX9_goes_13 rfl ?_
  refine G_iload_n (i := 1) C 17 dX9_goes_16 rfl rfl rfl ?_
  refine G_iald (n := 6) C 18 (lW hw (by decide)) (eW7 _ _ _ hw) (p) hx (by omega) (by decide) dX9_goes_17 rfl (fun x17 ex17 => ?_)
  have Sx17 : x17 = P 7 (p) := ex17.trans (cI_7 i_1 (by omega))
  refine G_calli 21 (D_X9_104 C (by omega) kdq2 hkdq2 x9 x17 (Nat.le_of_ble_eq_true rfl) rfl dX9_goes_18) rfl (fun x18 s18 h18 => ?_)
  obtain ⟨es18, h18⟩ := h18
  have es18 := es18.symm
  subst es18
  exact G_iret C dX9_goes_21 (⟨f_1, by rw [h18, ← ekdq2, h9.2, Sx17]; rfl⟩)
theorem dX9_wishedBy_0 : decode cX9_wishedBy 0 = .ok (.iload_n 2, 1) := by decide +kernel
theorem dX9_wishedBy_1 : decode cX9_wishedBy 1 = .ok (.aload_n 0, 1) := by decide +kernel
theorem dX9_wishedBy_2 : decode cX9_wishedBy 2 = .ok (.getfield 25, 3) := by decide +kernel
theorem dX9_wishedBy_5 : decode cX9_wishedBy 5 = .ok (.iload_n 1, 1) := by decide +kernel
theorem dX9_wishedBy_6 : decode cX9_wishedBy 6 = .ok (.iaload, 1) := by decide +kernel
theorem dX9_wishedBy_7 : decode cX9_wishedBy 7 = .ok (.iconst (-1), 1) := by decide +kernel
theorem dX9_wishedBy_8 : decode cX9_wishedBy 8 = .ok (.ixor, 1) := by decide +kernel
theorem dX9_wishedBy_9 : decode cX9_wishedBy 9 = .ok (.iand, 1) := by decide +kernel
theorem dX9_wishedBy_10 : decode cX9_wishedBy 10 = .ok (.istore_n 3, 1) := by decide +kernel
theorem dX9_wishedBy_11 : decode cX9_wishedBy 11 = .ok (.iconst 0, 1) := by decide +kernel
theorem dX9_wishedBy_12 : decode cX9_wishedBy 12 = .ok (.istore 4, 2) := by decide +kernel
theorem dX9_wishedBy_14 : decode cX9_wishedBy 14 = .ok (.aload_n 0, 1) := by decide +kernel
theorem dX9_wishedBy_15 : decode cX9_wishedBy 15 = .ok (.iload_n 1, 1) := by decide +kernel
theorem dX9_wishedBy_16 : decode cX9_wishedBy 16 = .ok (.iconst 0, 1) := by decide +kernel
theorem dX9_wishedBy_17 : decode cX9_wishedBy 17 = .ok (.invokevirtual 66, 3) := by decide +kernel
theorem dX9_wishedBy_20 : decode cX9_wishedBy 20 = .ok (.iconst 0, 1) := by decide +kernel
theorem dX9_wishedBy_21 : decode cX9_wishedBy 21 = .ok (.istore 5, 2) := by decide +kernel
theorem dX9_wishedBy_23 : decode cX9_wishedBy 23 = .ok (.iload 5, 2) := by decide +kernel
theorem dX9_wishedBy_25 : decode cX9_wishedBy 25 = .ok (.bipush 10, 2) := by decide +kernel
theorem dX9_wishedBy_27 : decode cX9_wishedBy 27 = .ok (.if_icmp .ge 114, 3) := by decide +kernel
theorem dX9_wishedBy_30 : decode cX9_wishedBy 30 = .ok (.iload_n 3, 1) := by decide +kernel
theorem dX9_wishedBy_31 : decode cX9_wishedBy 31 = .ok (.iload 5, 2) := by decide +kernel
theorem dX9_wishedBy_33 : decode cX9_wishedBy 33 = .ok (.invokestatic 82, 3) := by decide +kernel
theorem dX9_wishedBy_36 : decode cX9_wishedBy 36 = .ok (.ifCond .eq 99, 3) := by decide +kernel
theorem dX9_wishedBy_39 : decode cX9_wishedBy 39 = .ok (.aload_n 0, 1) := by decide +kernel
theorem dX9_wishedBy_40 : decode cX9_wishedBy 40 = .ok (.getfield 37, 3) := by decide +kernel
theorem dX9_wishedBy_43 : decode cX9_wishedBy 43 = .ok (.iconst 0, 1) := by decide +kernel
theorem dX9_wishedBy_44 : decode cX9_wishedBy 44 = .ok (.aload_n 0, 1) := by decide +kernel
theorem dX9_wishedBy_45 : decode cX9_wishedBy 45 = .ok (.getfield 15, 3) := by decide +kernel
theorem dX9_wishedBy_48 : decode cX9_wishedBy 48 = .ok (.iload 5, 2) := by decide +kernel
theorem dX9_wishedBy_50 : decode cX9_wishedBy 50 = .ok (.iaload, 1) := by decide +kernel
theorem dX9_wishedBy_51 : decode cX9_wishedBy 51 = .ok (.iastore, 1) := by decide +kernel
theorem dX9_wishedBy_52 : decode cX9_wishedBy 52 = .ok (.aload_n 0, 1) := by decide +kernel
theorem dX9_wishedBy_53 : decode cX9_wishedBy 53 = .ok (.getfield 40, 3) := by decide +kernel
theorem dX9_wishedBy_56 : decode cX9_wishedBy 56 = .ok (.aload_n 0, 1) := by decide +kernel
theorem dX9_wishedBy_57 : decode cX9_wishedBy 57 = .ok (.getfield 54, 3) := by decide +kernel
theorem dX9_wishedBy_60 : decode cX9_wishedBy 60 = .ok (.aaload, 1) := by decide +kernel
theorem dX9_wishedBy_61 : decode cX9_wishedBy 61 = .ok (.iconst 0, 1) := by decide +kernel
theorem dX9_wishedBy_62 : decode cX9_wishedBy 62 = .ok (.aload_n 0, 1) := by decide +kernel
theorem dX9_wishedBy_63 : decode cX9_wishedBy 63 = .ok (.getfield 37, 3) := by decide +kernel
theorem dX9_wishedBy_66 : decode cX9_wishedBy 66 = .ok (.invokevirtual 70, 3) := by decide +kernel
theorem dX9_wishedBy_69 : decode cX9_wishedBy 69 = .ok (.istore 6, 2) := by decide +kernel
theorem dX9_wishedBy_71 : decode cX9_wishedBy 71 = .ok (.aload_n 0, 1) := by decide +kernel
theorem dX9_wishedBy_72 : decode cX9_wishedBy 72 = .ok (.getfield 40, 3) := by decide +kernel
theorem dX9_wishedBy_75 : decode cX9_wishedBy 75 = .ok (.aload_n 0, 1) := by decide +kernel
theorem dX9_wishedBy_76 : decode cX9_wishedBy 76 = .ok (.getfield 54, 3) := by decide +kernel
theorem dX9_wishedBy_79 : decode cX9_wishedBy 79 = .ok (.aaload, 1) := by decide +kernel
theorem dX9_wishedBy_80 : decode cX9_wishedBy 80 = .ok (.iconst 1, 1) := by decide +kernel
theorem dX9_wishedBy_81 : decode cX9_wishedBy 81 = .ok (.aload_n 0, 1) := by decide +kernel
theorem dX9_wishedBy_82 : decode cX9_wishedBy 82 = .ok (.getfield 37, 3) := by decide +kernel
theorem dX9_wishedBy_85 : decode cX9_wishedBy 85 = .ok (.invokevirtual 70, 3) := by decide +kernel
theorem dX9_wishedBy_88 : decode cX9_wishedBy 88 = .ok (.istore 7, 2) := by decide +kernel
theorem dX9_wishedBy_90 : decode cX9_wishedBy 90 = .ok (.aload_n 0, 1) := by decide +kernel
theorem dX9_wishedBy_91 : decode cX9_wishedBy 91 = .ok (.iload_n 1, 1) := by decide +kernel
theorem dX9_wishedBy_92 : decode cX9_wishedBy 92 = .ok (.invokevirtual 86, 3) := by decide +kernel
theorem dX9_wishedBy_95 : decode cX9_wishedBy 95 = .ok (.aload_n 0, 1) := by decide +kernel
theorem dX9_wishedBy_96 : decode cX9_wishedBy 96 = .ok (.getfield 22, 3) := by decide +kernel
theorem dX9_wishedBy_99 : decode cX9_wishedBy 99 = .ok (.iload_n 1, 1) := by decide +kernel
theorem dX9_wishedBy_100 : decode cX9_wishedBy 100 = .ok (.iaload, 1) := by decide +kernel
theorem dX9_wishedBy_101 : decode cX9_wishedBy 101 = .ok (.iload 5, 2) := by decide +kernel
theorem dX9_wishedBy_103 : decode cX9_wishedBy 103 = .ok (.invokestatic 82, 3) := by decide +kernel
theorem dX9_wishedBy_106 : decode cX9_wishedBy 106 = .ok (.iload 6, 2) := by decide +kernel
theorem dX9_wishedBy_108 : decode cX9_wishedBy 108 = .ok (.iload 7, 2) := by decide +kernel
theorem dX9_wishedBy_110 : decode cX9_wishedBy 110 = .ok (.aload_n 0, 1) := by decide +kernel
theorem dX9_wishedBy_111 : decode cX9_wishedBy 111 = .ok (.getfield 34, 3) := by decide +kernel
theorem dX9_wishedBy_114 : decode cX9_wishedBy 114 = .ok (.iload_n 1, 1) := by decide +kernel
theorem dX9_wishedBy_115 : decode cX9_wishedBy 115 = .ok (.iaload, 1) := by decide +kernel
theorem dX9_wishedBy_116 : decode cX9_wishedBy 116 = .ok (.aload_n 0, 1) := by decide +kernel
theorem dX9_wishedBy_117 : decode cX9_wishedBy 117 = .ok (.getfield 48, 3) := by decide +kernel
theorem dX9_wishedBy_120 : decode cX9_wishedBy 120 = .ok (.invokevirtual 90, 3) := by decide +kernel
theorem dX9_wishedBy_123 : decode cX9_wishedBy 123 = .ok (.ifCond .eq 12, 3) := by decide +kernel
theorem dX9_wishedBy_126 : decode cX9_wishedBy 126 = .ok (.iload 4, 2) := by decide +kernel
theorem dX9_wishedBy_128 : decode cX9_wishedBy 128 = .ok (.iconst 1, 1) := by decide +kernel
theorem dX9_wishedBy_129 : decode cX9_wishedBy 129 = .ok (.iload 5, 2) := by decide +kernel
theorem dX9_wishedBy_131 : decode cX9_wishedBy 131 = .ok (.ishl, 1) := by decide +kernel
theorem dX9_wishedBy_132 : decode cX9_wishedBy 132 = .ok (.ior, 1) := by decide +kernel
theorem dX9_wishedBy_133 : decode cX9_wishedBy 133 = .ok (.istore 4, 2) := by decide +kernel
theorem dX9_wishedBy_135 : decode cX9_wishedBy 135 = .ok (.iinc 5 1, 3) := by decide +kernel
theorem dX9_wishedBy_138 : decode cX9_wishedBy 138 = .ok (.goto (-115), 3) := by decide +kernel
theorem dX9_wishedBy_141 : decode cX9_wishedBy 141 = .ok (.iload 4, 2) := by decide +kernel
theorem dX9_wishedBy_143 : decode cX9_wishedBy 143 = .ok (.ireturn, 1) := by decide +kernel
set_option maxHeartbeats 4000000 in
set_option maxRecDepth 100000 in
theorem c_X9_wishedBy (d : Nat) (TX : gTX) (nT n l w : Nat) (P s : gS) (hI : cI TX nT n l w P s) (x : Int32) (p : Nat) (hx : x = nI p) (hp : p < n) (of : Int32) : gMt SC yX9_wishedBy cX9_wishedBy 8 (some .int) (d + 6) (fun ad => [.ref (ad w), .int x, .int of]) s (gQi SC (fun r s' => Fr mS s s' ∧ r = x_wset TX P p of 10)) := by
  have hw := hI.1
  have hn6 : n ≤ 6 := hI.2.2.1.2.1
  have hl6 : l < 6 := cI_l6 hI
  refine gMt_of SC_ok (by decide +kernel) (fun ad => [some (.ref (ad w)), some (.int x), some (.int of), none, none, none, none, none]) (fun _ => rfl) (fun _ => rfl) (fun _ => Nat.le_of_ble_eq_true rfl) (fun E C0 => ?_)
  have C : gCx SC E RX9 cX9_wishedBy 8 (some .int) (d + 6) := C0
  have i : cI TX nT n l w P s := hI
  have f : Fr mS s s := Fr.rf
  refine G_iload_n (i := 2) C 1 dX9_wishedBy_0 rfl rfl rfl ?_
  refine G_aload_n (i := 0) C 2 dX9_wishedBy_1 rfl rfl rfl ?_
  refine X9_25g C hw 5 dX9_wishedBy_2 rfl ?_
  refine G_iload_n (i := 1) C 6 dX9_wishedBy_5 rfl rfl rfl ?_
  refine G_iald (n := 6) C 7 (lW hw (by decide)) (eW4 _ _ _ hw) (p) hx (by omega) (by decide) dX9_wishedBy_6 rfl (fun x6 ex6 => ?_)
  have Sx6 : x6 = P 4 (p) := ex6.trans (congrFun (congrFun i.2.1 4) _)
  obtain ⟨mx6, hmx6, emx6⟩ := (cI_p i (p := p) (by omega)).2.2
  refine G_iconst (v := (-1)) C 8 dX9_wishedBy_7 rfl rfl ?_
  refine G_ixor C 9 dX9_wishedBy_8 rfl (fun x8 ex8 => ?_)
  refine G_iand C 10 dX9_wishedBy_9 rfl (fun x9 ex9 => ?_)
  refine G_istore_n (i := 3) (L' := [some (.ref (e_ad E w)), some (.int x), some (.int of), some (.int x9), none, none, none, none]) C 11 dX9_wishedBy_10 rfl rfl (Nat.le_of_ble_eq_true rfl) rfl rfl ?_
  refine G_iconst (v := 0) C 12 dX9_wishedBy_11 rfl rfl ?_
  refine G_istore (L' := [some (.ref (e_ad E w)), some (.int x), some (.int of), some (.int x9), some (.int 0), none, none, none]) C 14 dX9_wishedBy_12 rfl (Nat.le_of_ble_eq_true rfl) rfl rfl ?_
  refine G_aload_n (i := 0) C 15 dX9_wishedBy_14 rfl rfl rfl ?_
  refine G_iload_n (i := 1) C 16 dX9_wishedBy_15 rfl rfl rfl ?_
  refine G_iconst (v := 0) C 17 dX9_wishedBy_16 rfl rfl ?_
  refine G_callv 20 (G_runV C Kc_X9_name KV_X9_66 (by omega) (lW0 hw) (eW _ _ _ hw) rfl (c_X9_name 0 TX nT n l w P s i x p hx (by omega) 0) rfl rfl rfl (Nat.le_of_ble_eq_true rfl) rfl dX9_wishedBy_17) rfl (fun s17 h17 => ?_)
  have i_1 : cI TX nT n l w P s17 := cI_fr i (h17.1)
  have f_1 : Fr mS s s17 := Fr.tr f (h17.1)
  have q : ∀ i, i < 6 → ¬ i = 0 → s17 (w + 8) i = x_nm P p 0 i := fun i hi _ => h17.2 i hi
  refine G_iconst (v := 0) C 21 dX9_wishedBy_20 rfl rfl ?_
  refine G_istore (L' := [some (.ref (e_ad E w)), some (.int x), some (.int of), some (.int x9), some (.int 0), some (.int 0), none, none]) C 23 dX9_wishedBy_21 rfl (Nat.le_of_ble_eq_true rfl) rfl rfl ?_
  have L23 : ∀ (f23 : Nat) (k : Nat) (wi t : Int32) (sl23 : gS) (Et : t = nI k) (hk : k ≤ 10) (hwi : wi = x_wset TX P p of k) (il23 : cI TX nT n l w P sl23) (fl23 : Fr mS s sl23) (ql23 : ∀ i, i < 6 → ¬ i = 0 → sl23 (w + 8) i = x_nm P p 0 i), 10 < k + f23 → GW SC E (gFin SC E (gQi SC (fun r s' => Fr mS s s' ∧ r = x_wset TX P p of 10))) 23 [some (.ref (e_ad E w)), some (.int x), some (.int of), some (.int x9), some (.int wi), some (.int t), none, none] [] sl23 := by
    intro f23
    induction f23 with
    | zero =>
      intro k wi t sl23 Et hk hwi il23 fl23 ql23 hf23
      exact absurd hf23 (by omega)
    | succ f23 ih23 =>
      intro k wi t sl23 Et hk hwi il23 fl23 ql23 hf23
      refine G_iload C 25 dX9_wishedBy_23 rfl rfl ?_
      refine G_bipush (v := 10) C 27 dX9_wishedBy_25 rfl rfl ?_
      refine G_icmp_ge C 141 30 dX9_wishedBy_27 rfl rfl (fun c27 => ?_) (fun c27 => ?_)
      ·
        have n27 : ¬ k < 10 := fun h => c27 ((g_ltN (a := k) (b := 10) (hx := Et) (hy := rfl) (by omega) (by omega)).mpr h)
        refine G_iload C 143 dX9_wishedBy_141 rfl rfl ?_
        exact G_iret C dX9_wishedBy_143 (⟨fl23, by rw [hwi, show k = 10 by omega]⟩)
      ·
        have n27 : k < 10 := (g_ltN (a := k) (b := 10) (hx := Et) (hy := rfl) (by omega) (by omega)).mp c27
        refine G_iload_n (i := 3) C 31 dX9_wishedBy_30 rfl rfl rfl ?_
        refine G_iload C 33 dX9_wishedBy_31 rfl rfl ?_
        refine G_calli 36 (G_runN C Kc_X10_isIn KN_X9_82 (by omega) (c_X10_isIn 0 x9 t sl23) rfl rfl (Nat.le_of_ble_eq_true rfl) rfl dX9_wishedBy_33) rfl (fun x33 s33 h33 => ?_)
        obtain ⟨es33, h33⟩ := h33
        have es33 := es33.symm
        subst es33
        have Bx33 : x33 = x_bit x9 t := h33.trans (x_isInE _ _)
        refine G_if_eq C 135 39 dX9_wishedBy_36 rfl rfl (fun c36 => ?_) (fun c36 => ?_)
        ·
          refine G_iinc (w := 1) C 138 dX9_wishedBy_135 rfl rfl rfl rfl (fun x135 ex135 => ?_)
          have Nx135 : x135 = nI (k + 1) := g_addN ex135 Et rfl
          show GW SC E _ 138 [some (.ref (e_ad E w)), some (.int x), some (.int of), some (.int x9), some (.int wi), some (.int x135), none, none] [] sl23
          refine G_goto C 23 dX9_wishedBy_138 rfl ?_
          exact ih23 (k + 1) wi x135 sl23 (g_cn (a := (k + 1)) Nx135 (by first | rfl | omega | (simp only [List.length_cons, List.length_drop]; done) | (simp only [List.length_cons, List.length_drop]; omega))) (by omega) (by
              have z : x_bit x9 (nI k) = 0 := by rw [← Et, ← Bx33]; exact c36
              rw [ex9, ex8, x_bit_andn _ _ (by omega), Sx6] at z
              rw [hwi, x_wset]
              by_cases z1 : x_bit of (nI k) = 0
              · rw [if_pos z1]
              · rw [if_neg z1, if_pos (by unfold x_wishes; rw [if_neg (z.resolve_left z1)])]) il23 fl23 ql23 (by omega)
        ·
          refine G_aload_n (i := 0) C 40 dX9_wishedBy_39 rfl rfl rfl ?_
          refine X9_37g C hw 43 dX9_wishedBy_40 rfl ?_
          refine G_iconst (v := 0) C 44 dX9_wishedBy_43 rfl rfl ?_
          refine G_aload_n (i := 0) C 45 dX9_wishedBy_44 rfl rfl rfl ?_
          refine X9_15g C hw 48 dX9_wishedBy_45 rfl ?_
          refine G_iload C 50 dX9_wishedBy_48 rfl rfl ?_
          refine G_iald (n := 10) C 51 (lW hw (by decide)) (eWe _ _ _ hw) (k) Et (by omega) (by decide) dX9_wishedBy_50 rfl (fun x50 ex50 => ?_)
          have Sx50 : x50 = P 1 (k) := ex50.trans (congrFun (congrFun il23.2.1 1) _)
          refine G_iast (n := 6) C 52 (lW hw (by decide)) (fun σ => eW8 _ _ σ hw) (0) rfl (by omega) (by decide) (Nat.le_of_eq (nWi hw (by decide) (by decide)).symm) dX9_wishedBy_51 rfl (fun s51 es51 => ?_)
          have i_2 : cI TX nT n l w P s51 := cI_fr il23 (Fr.up es51 (mS_nam hw))
          have f_2 : Fr mS s s51 := Fr.tr fl23 (Fr.up es51 (mS_nam hw))
          have q_1 : ∀ i, i < 6 → ¬ i = 0 → s51 (w + 8) i = x_nm P p 0 i := fun i hi h0 => by rw [es51, g_up_sj, if_neg h0]; exact ql23 i hi h0
          have b : s51 (w + 8) 0 = P 1 k := by rw [es51, g_up_sj, if_pos rfl]; exact Sx50
          have hnm : ∀ i, i < 6 → s51 (w + 8) i = x_nm P p (P 1 k) i := fun i hi => by
            by_cases h0 : i = 0
            · rw [h0, b]; rfl
            · rw [q_1 i hi h0]
              unfold x_nm
              rw [if_neg h0, if_neg h0]
          refine G_aload_n (i := 0) C 53 dX9_wishedBy_52 rfl rfl rfl ?_
          refine X9_40g C hw 56 dX9_wishedBy_53 rfl ?_
          refine G_aload_n (i := 0) C 57 dX9_wishedBy_56 rfl rfl rfl ?_
          refine X9_54g C hw 60 dX9_wishedBy_57 rfl (fun x57 ex57 => ?_)
          have Sx57 : x57 = nI l := ex57.trans ((cI_v i_2 0 3).trans i_2.2.2.1.2.2.1)
          refine G_aald (r := (6 + 4 * l)) C 61 (by decide) (eC1 _ _ _) (fun _ => rfl) (l) Sx57 (by omega) (by decide) rfl dX9_wishedBy_60 rfl ?_
          refine G_iconst (v := 0) C 62 dX9_wishedBy_61 rfl rfl ?_
          refine G_aload_n (i := 0) C 63 dX9_wishedBy_62 rfl rfl rfl ?_
          refine X9_37g C hw 66 dX9_wishedBy_63 rfl ?_
          refine G_calli 69 (G_runV C Kc_X7_says KV_X9_70 (by omega) (lT0 (by omega)) (eTx _ _ _ (by omega)) rfl (c_X7_says 0 TX l w 0 hl6 hw (by omega) 0 rfl s51 (cI_t i_2) (cI_h i_2 (by omega))) rfl rfl rfl (Nat.le_of_ble_eq_true rfl) rfl dX9_wishedBy_66) rfl (fun x66 s66 h66 => ?_)
          have i_3 : cI TX nT n l w P s66 := cI_fr i_2 (Fr.val hl6 h66.1)
          have f_3 : Fr mS s s66 := Fr.tr f_2 (Fr.val hl6 h66.1)
          have q_2 : ∀ i, i < 6 → ¬ i = 0 → s66 (w + 8) i = x_nm P p 0 i := fun i hi h0 => by rw [h66.1 _ (by rcases hw with rfl | rfl | rfl <;> omega)]; exact q_1 i hi h0
          have b_1 : s66 (w + 8) 0 = P 1 k := by rw [h66.1 _ (by rcases hw with rfl | rfl | rfl <;> omega)]; exact b
          have A66 : x66 = x_asks TX P 0 p (P 1 k) := h66.2.trans (x_asksE hI (by decide) hnm)
          have hnm2 : ∀ i, i < 6 → s66 (w + 8) i = x_nm P p (P 1 k) i := fun i hi => by rw [h66.1 _ (by rcases hw with rfl | rfl | rfl <;> omega)]; exact hnm i hi
          refine G_istore (L' := [some (.ref (e_ad E w)), some (.int x), some (.int of), some (.int x9), some (.int wi), some (.int t), some (.int x66), none]) C 71 dX9_wishedBy_69 rfl (Nat.le_of_ble_eq_true rfl) rfl rfl ?_
          refine G_aload_n (i := 0) C 72 dX9_wishedBy_71 rfl rfl rfl ?_
          refine X9_40g C hw 75 dX9_wishedBy_72 rfl ?_
          refine G_aload_n (i := 0) C 76 dX9_wishedBy_75 rfl rfl rfl ?_
          refine X9_54g C hw 79 dX9_wishedBy_76 rfl (fun x76 ex76 => ?_)
          have Sx76 : x76 = nI l := ex76.trans ((cI_v i_3 0 3).trans i_3.2.2.1.2.2.1)
          refine G_aald (r := (6 + 4 * l)) C 80 (by decide) (eC1 _ _ _) (fun _ => rfl) (l) Sx76 (by omega) (by decide) rfl dX9_wishedBy_79 rfl ?_
          refine G_iconst (v := 1) C 81 dX9_wishedBy_80 rfl rfl ?_
          refine G_aload_n (i := 0) C 82 dX9_wishedBy_81 rfl rfl rfl ?_
          refine X9_37g C hw 85 dX9_wishedBy_82 rfl ?_
          refine G_calli 88 (G_runV C Kc_X7_says KV_X9_70 (by omega) (lT0 (by omega)) (eTx _ _ _ (by omega)) rfl (c_X7_says 0 TX l w 1 hl6 hw (by omega) 1 rfl s66 (cI_t i_3) (cI_h i_3 (by omega))) rfl rfl rfl (Nat.le_of_ble_eq_true rfl) rfl dX9_wishedBy_85) rfl (fun x85 s85 h85 => ?_)
          have i_4 : cI TX nT n l w P s85 := cI_fr i_3 (Fr.val hl6 h85.1)
          have f_4 : Fr mS s s85 := Fr.tr f_3 (Fr.val hl6 h85.1)
          have q_3 : ∀ i, i < 6 → ¬ i = 0 → s85 (w + 8) i = x_nm P p 0 i := fun i hi h0 => by rw [h85.1 _ (by rcases hw with rfl | rfl | rfl <;> omega)]; exact q_2 i hi h0
          have b_2 : s85 (w + 8) 0 = P 1 k := by rw [h85.1 _ (by rcases hw with rfl | rfl | rfl <;> omega)]; exact b_1
          have A85 : x85 = x_asks TX P 1 p (P 1 k) := h85.2.trans (x_asksE hI (by decide) hnm2)
          refine G_istore (L' := [some (.ref (e_ad E w)), some (.int x), some (.int of), some (.int x9), some (.int wi), some (.int t), some (.int x66), some (.int x85)]) C 90 dX9_wishedBy_88 rfl (Nat.le_of_ble_eq_true rfl) rfl rfl ?_
          refine G_aload_n (i := 0) C 91 dX9_wishedBy_90 rfl rfl rfl ?_
          refine G_iload_n (i := 1) C 92 dX9_wishedBy_91 rfl rfl rfl ?_
          refine G_callr 95 (G_runV C Kc_X9_nature KV_X9_86 (by omega) (lW0 hw) (eW _ _ _ hw) rfl (c_X9_nature 0 TX nT n l w P s85 i_4 x p hx (by omega)) rfl rfl rfl (Nat.le_of_ble_eq_true rfl) rfl dX9_wishedBy_92) rfl (fun q92 s92 h92 => ?_)
          obtain ⟨es92, h92⟩ := h92
          have es92 := es92.symm
          subst es92
          obtain ⟨kdq92, hkdq92, ekdq92, rfl⟩ := h92
          refine G_aload_n (i := 0) C 96 dX9_wishedBy_95 rfl rfl rfl ?_
          refine X9_22g C hw 99 dX9_wishedBy_96 rfl ?_
          refine G_iload_n (i := 1) C 100 dX9_wishedBy_99 rfl rfl rfl ?_
          refine G_iald (n := 6) C 101 (lW hw (by decide)) (eW3 _ _ _ hw) (p) hx (by omega) (by decide) dX9_wishedBy_100 rfl (fun x100 ex100 => ?_)
          have Sx100 : x100 = P 3 (p) := ex100.trans (congrFun (congrFun i_4.2.1 3) _)
          obtain ⟨mx100, hmx100, emx100⟩ := (cI_p i_4 (p := p) (by omega)).2.1
          refine G_iload C 103 dX9_wishedBy_101 rfl rfl ?_
          refine G_calli 106 (G_runN C Kc_X10_isIn KN_X9_82 (by omega) (c_X10_isIn 0 x100 t s85) rfl rfl (Nat.le_of_ble_eq_true rfl) rfl dX9_wishedBy_103) rfl (fun x103 s103 h103 => ?_)
          obtain ⟨es103, h103⟩ := h103
          have es103 := es103.symm
          subst es103
          have Bx103 : x103 = x_bit x100 t := h103.trans (x_isInE _ _)
          refine G_iload C 108 dX9_wishedBy_106 rfl rfl ?_
          refine G_iload C 110 dX9_wishedBy_108 rfl rfl ?_
          refine G_aload_n (i := 0) C 111 dX9_wishedBy_110 rfl rfl rfl ?_
          refine X9_34g C hw 114 dX9_wishedBy_111 rfl ?_
          refine G_iload_n (i := 1) C 115 dX9_wishedBy_114 rfl rfl rfl ?_
          refine G_iald (n := 6) C 116 (lW hw (by decide)) (eW7 _ _ _ hw) (p) hx (by omega) (by decide) dX9_wishedBy_115 rfl (fun x115 ex115 => ?_)
          have Sx115 : x115 = P 7 (p) := ex115.trans (cI_7 i_4 (by omega))
          refine G_aload_n (i := 0) C 117 dX9_wishedBy_116 rfl rfl rfl ?_
          refine X9_48g C hw 120 dX9_wishedBy_117 rfl (fun x117 ex117 => ?_)
          have Sx117 : x117 = P 0 0 := ex117.trans (cI_v i_4 0 0)
          refine G_calli 123 (D_X9_90 C (by omega) kdq92 hkdq92 x103 x66 x85 x115 x117 (by rw [Bx103]; exact x_bit01 _ _) (Nat.le_of_ble_eq_true rfl) rfl dX9_wishedBy_120) rfl (fun x120 s120 h120 => ?_)
          obtain ⟨es120, h120⟩ := h120
          have es120 := es120.symm
          subst es120
          refine G_if_eq C 135 126 dX9_wishedBy_123 rfl rfl (fun c123 => ?_) (fun c123 => ?_)
          ·
            refine G_iinc (w := 1) C 138 dX9_wishedBy_135 rfl rfl rfl rfl (fun x135 ex135 => ?_)
            have Nx135 : x135 = nI (k + 1) := g_addN ex135 Et rfl
            show GW SC E _ 138 [some (.ref (e_ad E w)), some (.int x), some (.int of), some (.int x9), some (.int wi), some (.int x135), some (.int x66), some (.int x85)] [] s85
            refine G_goto C 23 dX9_wishedBy_138 rfl ?_
            refine G_drop (L' := [some (.ref (e_ad E w)), some (.int x), some (.int of), some (.int x9), some (.int wi), some (.int x135), none, none]) ⟨rfl, rfl, rfl, rfl, rfl, rfl, trivial⟩ ?_
            exact ih23 (k + 1) wi x135 s85 (g_cn (a := (k + 1)) Nx135 (by first | rfl | omega | (simp only [List.length_cons, List.length_drop]; done) | (simp only [List.length_cons, List.length_drop]; omega))) (by omega) (by
                have z : ¬ x_bit x9 (nI k) = 0 := by rw [← Et, ← Bx33]; exact c36
                rw [ex9, ex8, x_bit_andn _ _ (by omega), Sx6] at z
                have z1 : ¬ x_bit of (nI k) = 0 := fun q => z (Or.inl q)
                have z2 : x_bit (P 4 p) (nI k) = 0 := Classical.byContradiction fun q => z (Or.inr q)
                have z3 : x_wishes TX P p k = x120 := by
                  unfold x_wishes
                  rw [if_pos z2, h120, A66, A85, Sx115, Sx117, ← ekdq92, Bx103, Et, Sx100]
                  rfl
                rw [hwi, x_wset, if_neg z1, if_pos (z3.trans c123)]) i_4 f_4 q_3 (by omega)
          ·
            refine G_iload C 128 dX9_wishedBy_126 rfl rfl ?_
            refine G_iconst (v := 1) C 129 dX9_wishedBy_128 rfl rfl ?_
            refine G_iload C 131 dX9_wishedBy_129 rfl rfl ?_
            refine G_ishl C 132 dX9_wishedBy_131 rfl (fun x131 ex131 => ?_)
            refine G_ior C 133 dX9_wishedBy_132 rfl (fun x132 ex132 => ?_)
            refine G_istore (L' := [some (.ref (e_ad E w)), some (.int x), some (.int of), some (.int x9), some (.int x132), some (.int t), some (.int x66), some (.int x85)]) C 135 dX9_wishedBy_133 rfl (Nat.le_of_ble_eq_true rfl) rfl rfl ?_
            refine G_iinc (w := 1) C 138 dX9_wishedBy_135 rfl rfl rfl rfl (fun x135 ex135 => ?_)
            have Nx135 : x135 = nI (k + 1) := g_addN ex135 Et rfl
            show GW SC E _ 138 [some (.ref (e_ad E w)), some (.int x), some (.int of), some (.int x9), some (.int x132), some (.int x135), some (.int x66), some (.int x85)] [] s85
            refine G_goto C 23 dX9_wishedBy_138 rfl ?_
            refine G_drop (L' := [some (.ref (e_ad E w)), some (.int x), some (.int of), some (.int x9), some (.int x132), some (.int x135), none, none]) ⟨rfl, rfl, rfl, rfl, rfl, rfl, trivial⟩ ?_
            exact ih23 (k + 1) x132 x135 s85 (g_cn (a := (k + 1)) Nx135 (by first | rfl | omega | (simp only [List.length_cons, List.length_drop]; done) | (simp only [List.length_cons, List.length_drop]; omega))) (by omega) (by
                have z : ¬ x_bit x9 (nI k) = 0 := by rw [← Et, ← Bx33]; exact c36
                rw [ex9, ex8, x_bit_andn _ _ (by omega), Sx6] at z
                have z1 : ¬ x_bit of (nI k) = 0 := fun q => z (Or.inl q)
                have z2 : x_bit (P 4 p) (nI k) = 0 := Classical.byContradiction fun q => z (Or.inr q)
                have z3 : x_wishes TX P p k = x120 := by
                  unfold x_wishes
                  rw [if_pos z2, h120, A66, A85, Sx115, Sx117, ← ekdq92, Bx103, Et, Sx100]
                  rfl
                rw [x_wset, if_neg z1, if_neg (by rw [z3]; exact c123), ex132, ex131, Et, hwi]) i_4 f_4 q_3 (by omega)
  exact L23 (10 + 1) 0 0 0 s17 (g_cn (a := 0) rfl (by first | rfl | omega)) (by omega) (rfl) i_1 f_1 q (by omega)
