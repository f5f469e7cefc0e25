theorem dX11_isByte_0 : decode cX11_isByte 0 = .ok (.iload_n 0, 1) := by decide +kernel
theorem dX11_isByte_1 : decode cX11_isByte 1 = .ok (.iconst 0, 1) := by decide +kernel
theorem dX11_isByte_2 : decode cX11_isByte 2 = .ok (.sipush 255, 3) := by decide +kernel
theorem dX11_isByte_5 : decode cX11_isByte 5 = .ok (.invokestatic 78, 3) := by decide +kernel
theorem dX11_isByte_8 : decode cX11_isByte 8 = .ok (.ireturn, 1) := by decide +kernel
set_option maxHeartbeats 4000000 in
set_option maxRecDepth 100000 in
theorem c_X11_isByte (d : Nat) (v : Int32) (s : gS) : gMt SM yX11_isByte cX11_isByte 1 (some .boolean) (d + 2) (fun ad => [.int v]) s (gQi SM (fun r s' => s' = s ∧ r = x_in v 0 255)) := by
  refine gMt_of SM_ok (by decide +kernel) (fun ad => [some (.int v)]) (fun _ => rfl) (fun _ => rfl) (fun _ => Nat.le_of_ble_eq_true rfl) (fun E C0 => ?_)
  have C : gCx SM E RX11 cX11_isByte 1 (some .boolean) (d + 2) := C0
  refine G_iload_n (i := 0) C 1 dX11_isByte_0 rfl rfl rfl ?_
  refine G_iconst (v := 0) C 2 dX11_isByte_1 rfl rfl ?_
  refine G_sipush (v := 255) C 5 dX11_isByte_2 rfl rfl ?_
  refine G_calli 8 (G_runS C Kc_X11_in KS_X11_78 (by omega) (c_X11_in 0 v 0 255 s) rfl rfl (Nat.le_of_ble_eq_true rfl) rfl dX11_isByte_5) rfl (fun x5 s5 h5 => ?_)
  obtain ⟨es5, h5⟩ := h5
  have es5 := es5.symm
  subst es5
  exact G_zret C (g_nb (by rw [h5]; exact x_in01 _ _ _)) dX11_isByte_8 (⟨rfl, h5⟩)
theorem dX11_isCorner_0 : decode cX11_isCorner 0 = .ok (.iload_n 0, 1) := by decide +kernel
theorem dX11_isCorner_1 : decode cX11_isCorner 1 = .ok (.iconst 0, 1) := by decide +kernel
theorem dX11_isCorner_2 : decode cX11_isCorner 2 = .ok (.bipush 8, 2) := by decide +kernel
theorem dX11_isCorner_4 : decode cX11_isCorner 4 = .ok (.invokestatic 78, 3) := by decide +kernel
theorem dX11_isCorner_7 : decode cX11_isCorner 7 = .ok (.ireturn, 1) := by decide +kernel
set_option maxHeartbeats 4000000 in
set_option maxRecDepth 100000 in
theorem c_X11_isCorner (d : Nat) (v : Int32) (s : gS) : gMt SM yX11_isCorner cX11_isCorner 1 (some .boolean) (d + 2) (fun ad => [.int v]) s (gQi SM (fun r s' => s' = s ∧ r = x_in v 0 8)) := by
  refine gMt_of SM_ok (by decide +kernel) (fun ad => [some (.int v)]) (fun _ => rfl) (fun _ => rfl) (fun _ => Nat.le_of_ble_eq_true rfl) (fun E C0 => ?_)
  have C : gCx SM E RX11 cX11_isCorner 1 (some .boolean) (d + 2) := C0
  refine G_iload_n (i := 0) C 1 dX11_isCorner_0 rfl rfl rfl ?_
  refine G_iconst (v := 0) C 2 dX11_isCorner_1 rfl rfl ?_
  refine G_bipush (v := 8) C 4 dX11_isCorner_2 rfl rfl ?_
  refine G_calli 7 (G_runS C Kc_X11_in KS_X11_78 (by omega) (c_X11_in 0 v 0 8 s) rfl rfl (Nat.le_of_ble_eq_true rfl) rfl dX11_isCorner_4) rfl (fun x4 s4 h4 => ?_)
  obtain ⟨es4, h4⟩ := h4
  have es4 := es4.symm
  subst es4
  exact G_zret C (g_nb (by rw [h4]; exact x_in01 _ _ _)) dX11_isCorner_7 (⟨rfl, h4⟩)
theorem dX11_isThing_0 : decode cX11_isThing 0 = .ok (.iload_n 0, 1) := by decide +kernel
theorem dX11_isThing_1 : decode cX11_isThing 1 = .ok (.iconst 0, 1) := by decide +kernel
theorem dX11_isThing_2 : decode cX11_isThing 2 = .ok (.bipush 9, 2) := by decide +kernel
theorem dX11_isThing_4 : decode cX11_isThing 4 = .ok (.invokestatic 78, 3) := by decide +kernel
theorem dX11_isThing_7 : decode cX11_isThing 7 = .ok (.ireturn, 1) := by decide +kernel
set_option maxHeartbeats 4000000 in
set_option maxRecDepth 100000 in
theorem c_X11_isThing (d : Nat) (v : Int32) (s : gS) : gMt SM yX11_isThing cX11_isThing 1 (some .boolean) (d + 2) (fun ad => [.int v]) s (gQi SM (fun r s' => s' = s ∧ r = x_in v 0 9)) := by
  refine gMt_of SM_ok (by decide +kernel) (fun ad => [some (.int v)]) (fun _ => rfl) (fun _ => rfl) (fun _ => Nat.le_of_ble_eq_true rfl) (fun E C0 => ?_)
  have C : gCx SM E RX11 cX11_isThing 1 (some .boolean) (d + 2) := C0
  refine G_iload_n (i := 0) C 1 dX11_isThing_0 rfl rfl rfl ?_
  refine G_iconst (v := 0) C 2 dX11_isThing_1 rfl rfl ?_
  refine G_bipush (v := 9) C 4 dX11_isThing_2 rfl rfl ?_
  refine G_calli 7 (G_runS C Kc_X11_in KS_X11_78 (by omega) (c_X11_in 0 v 0 9 s) rfl rfl (Nat.le_of_ble_eq_true rfl) rfl dX11_isThing_4) rfl (fun x4 s4 h4 => ?_)
  obtain ⟨es4, h4⟩ := h4
  have es4 := es4.symm
  subst es4
  exact G_zret C (g_nb (by rw [h4]; exact x_in01 _ _ _)) dX11_isThing_7 (⟨rfl, h4⟩)
theorem mI_kp {TX : gTX} {nT n l : Nat} {P s s' : gS} (h : mI TX nT n l P s) (f : Fr (fun q => q = 18) s s') : mI TX nT n l P s' :=
  ⟨by rw [mv_fr f (by decide) (by decide) (by decide) (by decide) (by decide)]; exact h.1, h.2.1, fun t ht => mT_fr f (by decide) (by decide) (h.2.2 t ht)⟩
theorem dX11_count_0 : decode cX11_count 0 = .ok (.iload_n 1, 1) := by decide +kernel
theorem dX11_count_1 : decode cX11_count 1 = .ok (.tableswitch 76 0 5 #[39, 44, 51, 61, 66, 71], 39) := by decide +kernel
theorem dX11_count_40 : decode cX11_count 40 = .ok (.aload_n 0, 1) := by decide +kernel
theorem dX11_count_41 : decode cX11_count 41 = .ok (.getfield 75, 3) := by decide +kernel
theorem dX11_count_44 : decode cX11_count 44 = .ok (.ireturn, 1) := by decide +kernel
theorem dX11_count_45 : decode cX11_count 45 = .ok (.aload_n 0, 1) := by decide +kernel
theorem dX11_count_46 : decode cX11_count 46 = .ok (.getfield 19, 3) := by decide +kernel
theorem dX11_count_49 : decode cX11_count 49 = .ok (.iconst 0, 1) := by decide +kernel
theorem dX11_count_50 : decode cX11_count 50 = .ok (.iaload, 1) := by decide +kernel
theorem dX11_count_51 : decode cX11_count 51 = .ok (.ireturn, 1) := by decide +kernel
theorem dX11_count_52 : decode cX11_count 52 = .ok (.aload_n 0, 1) := by decide +kernel
theorem dX11_count_53 : decode cX11_count 53 = .ok (.getfield 19, 3) := by decide +kernel
theorem dX11_count_56 : decode cX11_count 56 = .ok (.iconst 2, 1) := by decide +kernel
theorem dX11_count_57 : decode cX11_count 57 = .ok (.iaload, 1) := by decide +kernel
theorem dX11_count_58 : decode cX11_count 58 = .ok (.invokestatic 82, 3) := by decide +kernel
theorem dX11_count_61 : decode cX11_count 61 = .ok (.ireturn, 1) := by decide +kernel
theorem dX11_count_62 : decode cX11_count 62 = .ok (.aload_n 0, 1) := by decide +kernel
theorem dX11_count_63 : decode cX11_count 63 = .ok (.getfield 86, 3) := by decide +kernel
theorem dX11_count_66 : decode cX11_count 66 = .ok (.ireturn, 1) := by decide +kernel
theorem dX11_count_67 : decode cX11_count 67 = .ok (.aload_n 0, 1) := by decide +kernel
theorem dX11_count_68 : decode cX11_count 68 = .ok (.getfield 89, 3) := by decide +kernel
theorem dX11_count_71 : decode cX11_count 71 = .ok (.ireturn, 1) := by decide +kernel
theorem dX11_count_72 : decode cX11_count 72 = .ok (.aload_n 0, 1) := by decide +kernel
theorem dX11_count_73 : decode cX11_count 73 = .ok (.getfield 67, 3) := by decide +kernel
theorem dX11_count_76 : decode cX11_count 76 = .ok (.ireturn, 1) := by decide +kernel
theorem dX11_count_77 : decode cX11_count 77 = .ok (.bipush (-2), 2) := by decide +kernel
theorem dX11_count_79 : decode cX11_count 79 = .ok (.ireturn, 1) := by decide +kernel
set_option maxHeartbeats 4000000 in
set_option maxRecDepth 100000 in
theorem c_X11_count (d : Nat) (TX : gTX) (P B s : gS) (hR0 : RM TX P B s) (q : Int32) : gMt SM yX11_count cX11_count 2 (some .int) (d + 2) (fun ad => [.ref (ad 0), .int q]) s (gQi SM (fun r s' => RM TX P B s' ∧ r = s_count P B q)) := by
  obtain ⟨nT, n, l, hR⟩ := hR0
  have hI := hR.1
  have hn6 : n ≤ 6 := hI.2.1.2.1
  have hl6 : l < 6 := mI_l6 hI
  have hxn : x_n P = n := x_nOf hI.2.1.1 hn6
  have hbI := hR.2.2
  have hnT6 : nT ≤ 6 := hI.2.1.2.2.2.2.1
  obtain ⟨tn0, htn0, etn0⟩ := hbI.2.1
  refine gMt_of SM_ok (by decide +kernel) (fun ad => [some (.ref (ad 0)), some (.int q)]) (fun _ => rfl) (fun _ => rfl) (fun _ => Nat.le_of_ble_eq_true rfl) (fun E C0 => ?_)
  have C : gCx SM E RX11 cX11_count 2 (some .int) (d + 2) := C0
  have fn : Qn s s := Qn.rf
  have i : mI TX nT n l P s := hI
  refine G_iload_n (i := 1) C 1 dX11_count_0 rfl rfl rfl ?_
  by_cases c1 : q = 0
  ·
    refine G_tsIn C 40 (0) c1 dX11_count_1 (by decide) rfl rfl ?_
    refine G_aload_n (i := 0) C 41 dX11_count_40 rfl rfl rfl ?_
    refine X11_75g C 44 dX11_count_41 rfl (fun x41 ex41 => ?_)
    have Sx41 : x41 = nI n := ex41.trans (mI_n i)
    exact G_iret C dX11_count_44 (⟨⟨nT, n, l, hR⟩, Sx41.trans (hI.2.1.1.symm.trans (by unfold s_count; rw [if_pos c1]))⟩)
  by_cases c1_1 : q = 1
  ·
    refine G_tsIn C 45 (1) c1_1 dX11_count_1 (by decide) rfl rfl ?_
    refine G_aload_n (i := 0) C 46 dX11_count_45 rfl rfl rfl ?_
    refine X11_19g C 49 dX11_count_46 rfl ?_
    refine G_iconst (v := 0) C 50 dX11_count_49 rfl rfl ?_
    refine G_iald (n := 13) C 51 (by decide) (eMk (by decide) _ _ _) (0) rfl (by omega) (by decide) dX11_count_50 rfl (fun x50 ex50 => ?_)
    have Sx50 : x50 = P 0 0 := ex50.trans (mI_v i 0 0)
    exact G_iret C dX11_count_51 (⟨⟨nT, n, l, hR⟩, Sx50.trans (by unfold s_count; rw [if_neg c1, if_pos c1_1])⟩)
  by_cases c1_2 : q = 2
  ·
    refine G_tsIn C 52 (2) c1_2 dX11_count_1 (by decide) rfl rfl ?_
    refine G_aload_n (i := 0) C 53 dX11_count_52 rfl rfl rfl ?_
    refine X11_19g C 56 dX11_count_53 rfl ?_
    refine G_iconst (v := 2) C 57 dX11_count_56 rfl rfl ?_
    refine G_iald (n := 13) C 58 (by decide) (eMk (by decide) _ _ _) (2) rfl (by omega) (by decide) dX11_count_57 rfl (fun x57 ex57 => ?_)
    have Sx57 : x57 = P 0 2 := ex57.trans (mI_v i 0 2)
    obtain ⟨mx57, hmx57, emx57⟩ := i.2.1.2.2.2.2.2.2.2.1
    refine G_calli 61 (G_runS C Kc_X11_onesOf KS_X11_82 (by omega) (c_X11_onesOf 0 x57 s) rfl rfl (Nat.le_of_ble_eq_true rfl) rfl dX11_count_58) rfl (fun x58 s58 h58 => ?_)
    obtain ⟨es58, h58⟩ := h58
    have es58 := es58.symm
    subst es58
    exact G_iret C dX11_count_61 (⟨⟨nT, n, l, hR⟩, h58.trans (by unfold s_count; rw [if_neg c1, if_neg c1_1, if_pos c1_2, Sx57])⟩)
  by_cases c1_3 : q = 3
  ·
    refine G_tsIn C 62 (3) c1_3 dX11_count_1 (by decide) rfl rfl ?_
    refine G_aload_n (i := 0) C 63 dX11_count_62 rfl rfl rfl ?_
    refine X11_86g C 66 dX11_count_63 rfl (fun x63 ex63 => ?_)
    have Sx63 : x63 = nI nT := ex63.trans ((congrFun (congrFun hR.2.1 0) 0).trans hbI.1)
    exact G_iret C dX11_count_66 (⟨⟨nT, n, l, hR⟩, Sx63.trans (hbI.1.symm.trans (by unfold s_count; rw [if_neg c1, if_neg c1_1, if_neg c1_2, if_pos c1_3]))⟩)
  by_cases c1_4 : q = 4
  ·
    refine G_tsIn C 67 (4) c1_4 dX11_count_1 (by decide) rfl rfl ?_
    refine G_aload_n (i := 0) C 68 dX11_count_67 rfl rfl rfl ?_
    refine X11_89g C 71 dX11_count_68 rfl (fun x68 ex68 => ?_)
    have Sx68 : x68 = nI l := ex68.trans (mI_l i)
    exact G_iret C dX11_count_71 (⟨⟨nT, n, l, hR⟩, Sx68.trans (hI.2.1.2.2.1.symm.trans (by unfold s_count; rw [if_neg c1, if_neg c1_1, if_neg c1_2, if_neg c1_3, if_pos c1_4]))⟩)
  by_cases c1_5 : q = 5
  ·
    refine G_tsIn C 72 (5) c1_5 dX11_count_1 (by decide) rfl rfl ?_
    refine G_aload_n (i := 0) C 73 dX11_count_72 rfl rfl rfl ?_
    refine X11_67g C 76 dX11_count_73 rfl (fun x73 ex73 => ?_)
    have Sx73 : x73 = B 0 1 := ex73.trans (congrFun (congrFun hR.2.1 0) 1)
    exact G_iret C dX11_count_76 (⟨⟨nT, n, l, hR⟩, Sx73.trans (by unfold s_count; rw [if_neg c1, if_neg c1_1, if_neg c1_2, if_neg c1_3, if_neg c1_4, if_pos c1_5])⟩)
  refine G_tsOut C 77 dX11_count_1 (by
    have e0 := g_ti (k := 0) 0 rfl c1
    have e1 := g_ti (k := 1) 1 rfl c1_1
    have e2 := g_ti (k := 2) 2 rfl c1_2
    have e3 := g_ti (k := 3) 3 rfl c1_3
    have e4 := g_ti (k := 4) 4 rfl c1_4
    have e5 := g_ti (k := 5) 5 rfl c1_5
    omega) rfl ?_
  refine G_bipush (v := (-2)) C 79 dX11_count_77 rfl rfl ?_
  exact G_iret C dX11_count_79 (⟨⟨nT, n, l, hR⟩, by unfold s_count; rw [if_neg c1, if_neg c1_1, if_neg c1_2, if_neg c1_3, if_neg c1_4, if_neg c1_5]⟩)
theorem dX11_borough_0 : decode cX11_borough 0 = .ok (.iload_n 1, 1) := by decide +kernel
theorem dX11_borough_1 : decode cX11_borough 1 = .ok (.ifCond .ne 9, 3) := by decide +kernel
theorem dX11_borough_4 : decode cX11_borough 4 = .ok (.sipush 9999, 3) := by decide +kernel
theorem dX11_borough_7 : decode cX11_borough 7 = .ok (.goto 26, 3) := by decide +kernel
theorem dX11_borough_10 : decode cX11_borough 10 = .ok (.iload_n 1, 1) := by decide +kernel
theorem dX11_borough_11 : decode cX11_borough 11 = .ok (.iconst 1, 1) := by decide +kernel
theorem dX11_borough_12 : decode cX11_borough 12 = .ok (.if_icmp .ne 8, 3) := by decide +kernel
theorem dX11_borough_15 : decode cX11_borough 15 = .ok (.bipush 8, 2) := by decide +kernel
theorem dX11_borough_17 : decode cX11_borough 17 = .ok (.goto 16, 3) := by decide +kernel
theorem dX11_borough_20 : decode cX11_borough 20 = .ok (.iload_n 1, 1) := by decide +kernel
theorem dX11_borough_21 : decode cX11_borough 21 = .ok (.iconst 2, 1) := by decide +kernel
theorem dX11_borough_22 : decode cX11_borough 22 = .ok (.if_icmp .ne 9, 3) := by decide +kernel
theorem dX11_borough_25 : decode cX11_borough 25 = .ok (.sipush 1023, 3) := by decide +kernel
theorem dX11_borough_28 : decode cX11_borough 28 = .ok (.goto 5, 3) := by decide +kernel
theorem dX11_borough_31 : decode cX11_borough 31 = .ok (.bipush 99, 2) := by decide +kernel
theorem dX11_borough_33 : decode cX11_borough 33 = .ok (.istore_n 3, 1) := by decide +kernel
theorem dX11_borough_34 : decode cX11_borough 34 = .ok (.iload_n 1, 1) := by decide +kernel
theorem dX11_borough_35 : decode cX11_borough 35 = .ok (.iconst 0, 1) := by decide +kernel
theorem dX11_borough_36 : decode cX11_borough 36 = .ok (.bipush 12, 2) := by decide +kernel
theorem dX11_borough_38 : decode cX11_borough 38 = .ok (.invokestatic 78, 3) := by decide +kernel
theorem dX11_borough_41 : decode cX11_borough 41 = .ok (.ifCond .eq 12, 3) := by decide +kernel
theorem dX11_borough_44 : decode cX11_borough 44 = .ok (.iload_n 2, 1) := by decide +kernel
theorem dX11_borough_45 : decode cX11_borough 45 = .ok (.iconst 0, 1) := by decide +kernel
theorem dX11_borough_46 : decode cX11_borough 46 = .ok (.iload_n 3, 1) := by decide +kernel
theorem dX11_borough_47 : decode cX11_borough 47 = .ok (.invokestatic 78, 3) := by decide +kernel
theorem dX11_borough_50 : decode cX11_borough 50 = .ok (.ifCond .ne 6, 3) := by decide +kernel
theorem dX11_borough_53 : decode cX11_borough 53 = .ok (.bipush (-2), 2) := by decide +kernel
theorem dX11_borough_55 : decode cX11_borough 55 = .ok (.ireturn, 1) := by decide +kernel
theorem dX11_borough_56 : decode cX11_borough 56 = .ok (.aload_n 0, 1) := by decide +kernel
theorem dX11_borough_57 : decode cX11_borough 57 = .ok (.getfield 19, 3) := by decide +kernel
theorem dX11_borough_60 : decode cX11_borough 60 = .ok (.iload_n 1, 1) := by decide +kernel
theorem dX11_borough_61 : decode cX11_borough 61 = .ok (.iaload, 1) := by decide +kernel
theorem dX11_borough_62 : decode cX11_borough 62 = .ok (.istore 4, 2) := by decide +kernel
theorem dX11_borough_64 : decode cX11_borough 64 = .ok (.aload_n 0, 1) := by decide +kernel
theorem dX11_borough_65 : decode cX11_borough 65 = .ok (.getfield 19, 3) := by decide +kernel
theorem dX11_borough_68 : decode cX11_borough 68 = .ok (.iload_n 1, 1) := by decide +kernel
theorem dX11_borough_69 : decode cX11_borough 69 = .ok (.iload_n 2, 1) := by decide +kernel
theorem dX11_borough_70 : decode cX11_borough 70 = .ok (.iastore, 1) := by decide +kernel
theorem dX11_borough_71 : decode cX11_borough 71 = .ok (.iload 4, 2) := by decide +kernel
theorem dX11_borough_73 : decode cX11_borough 73 = .ok (.ireturn, 1) := by decide +kernel
set_option maxHeartbeats 4000000 in
set_option maxRecDepth 100000 in
theorem c_X11_borough (d : Nat) (TX : gTX) (P B s : gS) (hR0 : RM TX P B s) (q v : Int32) : gMt SM yX11_borough cX11_borough 5 (some .int) (d + 2) (fun ad => [.ref (ad 0), .int q, .int v]) s (gQi SM (fun r s' => RM TX (s_boP P q v) B s' ∧ r = s_boR P q v)) := by
  obtain ⟨nT, n, l, hR⟩ := hR0
  have hI := hR.1
  have hn6 : n ≤ 6 := hI.2.1.2.1
  have hl6 : l < 6 := mI_l6 hI
  have hxn : x_n P = n := x_nOf hI.2.1.1 hn6
  have hbI := hR.2.2
  have hnT6 : nT ≤ 6 := hI.2.1.2.2.2.2.1
  obtain ⟨tn0, htn0, etn0⟩ := hbI.2.1
  refine gMt_of SM_ok (by decide +kernel) (fun ad => [some (.ref (ad 0)), some (.int q), some (.int v), none, none]) (fun _ => rfl) (fun _ => rfl) (fun _ => Nat.le_of_ble_eq_true rfl) (fun E C0 => ?_)
  have C : gCx SM E RX11 cX11_borough 5 (some .int) (d + 2) := C0
  have fn : Qn s s := Qn.rf
  have i : mI TX nT n l P s := hI
  refine G_iload_n (i := 1) C 1 dX11_borough_0 rfl rfl rfl ?_
  refine G_if_ne C 10 4 dX11_borough_1 rfl rfl (fun c1 => ?_) (fun c1 => ?_)
  ·
    refine G_iload_n (i := 1) C 11 dX11_borough_10 rfl rfl rfl ?_
    refine G_iconst (v := 1) C 12 dX11_borough_11 rfl rfl ?_
    refine G_icmp_ne C 20 15 dX11_borough_12 rfl rfl (fun c12 => ?_) (fun c12 => ?_)
    ·
      refine G_iload_n (i := 1) C 21 dX11_borough_20 rfl rfl rfl ?_
      refine G_iconst (v := 2) C 22 dX11_borough_21 rfl rfl ?_
      refine G_icmp_ne C 31 25 dX11_borough_22 rfl rfl (fun c22 => ?_) (fun c22 => ?_)
      ·
        refine G_bipush (v := 99) C 33 dX11_borough_31 rfl rfl ?_
        refine G_istore_n (i := 3) (L' := [some (.ref (e_ad E 0)), some (.int q), some (.int v), some (.int 99), none]) C 34 dX11_borough_33 rfl rfl (Nat.le_of_ble_eq_true rfl) rfl rfl ?_
        refine G_iload_n (i := 1) C 35 dX11_borough_34 rfl rfl rfl ?_
        refine G_iconst (v := 0) C 36 dX11_borough_35 rfl rfl ?_
        refine G_bipush (v := 12) C 38 dX11_borough_36 rfl rfl ?_
        refine G_calli 41 (G_runS C Kc_X11_in KS_X11_78 (by omega) (c_X11_in 0 q 0 12 s) rfl rfl (Nat.le_of_ble_eq_true rfl) rfl dX11_borough_38) rfl (fun x38 s38 h38 => ?_)
        obtain ⟨es38, h38⟩ := h38
        have es38 := es38.symm
        subst es38
        refine G_if_eq C 53 44 dX11_borough_41 rfl rfl (fun c41 => ?_) (fun c41 => ?_)
        ·
          have k41 := h38.symm.trans c41
          refine G_bipush (v := (-2)) C 55 dX11_borough_53 rfl rfl ?_
          exact G_iret C dX11_borough_55 (⟨by unfold s_boP s_boOk; rw [if_pos k41, if_pos rfl]; exact ⟨nT, n, l, hR⟩, by unfold s_boR s_boOk; rw [if_pos k41, if_pos rfl]⟩)
        ·
          have k41 := g_neT h38 c41
          obtain ⟨uq, huq, euq⟩ := x_inR (b := 12) k41 rfl (by decide)
          have cuq : q.toNatClampNeg = uq := by rw [euq, nI_clamp (by omega)]
          refine G_iload_n (i := 2) C 45 dX11_borough_44 rfl rfl rfl ?_
          refine G_iconst (v := 0) C 46 dX11_borough_45 rfl rfl ?_
          refine G_iload_n (i := 3) C 47 dX11_borough_46 rfl rfl rfl ?_
          refine G_calli 50 (G_runS C Kc_X11_in KS_X11_78 (by omega) (c_X11_in 0 v 0 99 s) rfl rfl (Nat.le_of_ble_eq_true rfl) rfl dX11_borough_47) rfl (fun x47 s47 h47 => ?_)
          obtain ⟨es47, h47⟩ := h47
          have es47 := es47.symm
          subst es47
          refine G_if_ne C 56 53 dX11_borough_50 rfl rfl (fun c50 => ?_) (fun c50 => ?_)
          ·
            have k50 := g_neT h47 c50
            have hq3 : 3 ≤ uq := by
              have z0 : ¬ uq = 0 := fun z => c1 (by rw [euq, z]; rfl)
              have z1 : ¬ uq = 1 := fun z => c12 (by rw [euq, z]; rfl)
              have z2 : ¬ uq = 2 := fun z => c22 (by rw [euq, z]; rfl)
              omega
            refine G_aload_n (i := 0) C 57 dX11_borough_56 rfl rfl rfl ?_
            refine X11_19g C 60 dX11_borough_57 rfl ?_
            refine G_iload_n (i := 1) C 61 dX11_borough_60 rfl rfl rfl ?_
            refine G_iald (n := 13) C 62 (by decide) (eMk (by decide) _ _ _) ((3 + (uq - 3))) (g_cn euq (by omega)) (by omega) (by decide) dX11_borough_61 rfl (fun x61 ex61 => ?_)
            have Sx61 : x61 = P 1 (uq - 3) := ex61.trans (congrFun (congrFun i.1 1) (uq - 3))
            refine G_istore (L' := [some (.ref (e_ad E 0)), some (.int q), some (.int v), some (.int 99), some (.int x61)]) C 64 dX11_borough_62 rfl (Nat.le_of_ble_eq_true rfl) rfl rfl ?_
            refine G_aload_n (i := 0) C 65 dX11_borough_64 rfl rfl rfl ?_
            refine X11_19g C 68 dX11_borough_65 rfl ?_
            refine G_iload_n (i := 1) C 69 dX11_borough_68 rfl rfl rfl ?_
            refine G_iload_n (i := 2) C 70 dX11_borough_69 rfl rfl rfl ?_
            refine G_iast (n := 13) C 71 (by decide) (fun σ => eMk (by decide) _ _ σ) ((3 + (uq - 3))) (g_cn euq (by omega)) (by omega) (by decide) (Nat.le_refl _) dX11_borough_70 rfl (fun s70 es70 => ?_)
            have fn_1 : Qn s s70 := Qn.tr fn ((Qm.up es70 (by unfold mR; omega)).n)
            refine G_iload C 73 dX11_borough_71 rfl rfl ?_
            have em : s_most q = 99 := by unfold s_most; rw [if_neg c1, if_neg c12, if_neg c22]
            have cq : q.toNatClampNeg = uq := by rw [euq, nI_clamp (by omega)]
            exact G_iret C dX11_borough_73 (⟨by unfold s_boP s_boOk s_lay; rw [if_neg k41, em, if_neg k50, cq, if_neg (by omega)]; exact RM_up hR (mI_up1 hI es70) fn_1 rfl rfl (eI_up hbI.2.2.2.2.2.1 (x_inR (b := 99) k50 rfl (by decide))), by unfold s_boR s_boOk s_old; rw [if_neg k41, em, if_neg k50, cq, if_neg (by omega)]; exact Sx61⟩)
          ·
            have k50 := h47.symm.trans c50
            refine G_bipush (v := (-2)) C 55 dX11_borough_53 rfl rfl ?_
            have em : s_most q = 99 := by unfold s_most; rw [if_neg c1, if_neg c12, if_neg c22]
            exact G_iret C dX11_borough_55 (⟨by unfold s_boP s_boOk; rw [if_neg k41, em, if_pos k50]; exact ⟨nT, n, l, hR⟩, by unfold s_boR s_boOk; rw [if_neg k41, em, if_pos k50]⟩)
      ·
        refine G_sipush (v := 1023) C 28 dX11_borough_25 rfl rfl ?_
        refine G_goto C 33 dX11_borough_28 rfl ?_
        refine G_istore_n (i := 3) (L' := [some (.ref (e_ad E 0)), some (.int q), some (.int v), some (.int 1023), none]) C 34 dX11_borough_33 rfl rfl (Nat.le_of_ble_eq_true rfl) rfl rfl ?_
        refine G_iload_n (i := 1) C 35 dX11_borough_34 rfl rfl rfl ?_
        refine G_iconst (v := 0) C 36 dX11_borough_35 rfl rfl ?_
        refine G_bipush (v := 12) C 38 dX11_borough_36 rfl rfl ?_
        refine G_calli 41 (G_runS C Kc_X11_in KS_X11_78 (by omega) (c_X11_in 0 q 0 12 s) rfl rfl (Nat.le_of_ble_eq_true rfl) rfl dX11_borough_38) rfl (fun x38 s38 h38 => ?_)
        obtain ⟨es38, h38⟩ := h38
        have es38 := es38.symm
        subst es38
        refine G_if_eq C 53 44 dX11_borough_41 rfl rfl (fun c41 => ?_) (fun c41 => ?_)
        ·
          have k41 := h38.symm.trans c41
          refine G_bipush (v := (-2)) C 55 dX11_borough_53 rfl rfl ?_
          exact G_iret C dX11_borough_55 (⟨by unfold s_boP s_boOk; rw [if_pos k41, if_pos rfl]; exact ⟨nT, n, l, hR⟩, by unfold s_boR s_boOk; rw [if_pos k41, if_pos rfl]⟩)
        ·
          have k41 := g_neT h38 c41
          obtain ⟨uq, huq, euq⟩ := x_inR (b := 12) k41 rfl (by decide)
          have cuq : q.toNatClampNeg = uq := by rw [euq, nI_clamp (by omega)]
          refine G_iload_n (i := 2) C 45 dX11_borough_44 rfl rfl rfl ?_
          refine G_iconst (v := 0) C 46 dX11_borough_45 rfl rfl ?_
          refine G_iload_n (i := 3) C 47 dX11_borough_46 rfl rfl rfl ?_
          refine G_calli 50 (G_runS C Kc_X11_in KS_X11_78 (by omega) (c_X11_in 0 v 0 1023 s) rfl rfl (Nat.le_of_ble_eq_true rfl) rfl dX11_borough_47) rfl (fun x47 s47 h47 => ?_)
          obtain ⟨es47, h47⟩ := h47
          have es47 := es47.symm
          subst es47
          refine G_if_ne C 56 53 dX11_borough_50 rfl rfl (fun c50 => ?_) (fun c50 => ?_)
          ·
            have k50 := g_neT h47 c50
            refine G_aload_n (i := 0) C 57 dX11_borough_56 rfl rfl rfl ?_
            refine X11_19g C 60 dX11_borough_57 rfl ?_
            refine G_iload_n (i := 1) C 61 dX11_borough_60 rfl rfl rfl ?_
            refine G_iald (n := 13) C 62 (by decide) (eMk (by decide) _ _ _) (2) c22 (by omega) (by decide) dX11_borough_61 rfl (fun x61 ex61 => ?_)
            have Sx61 : x61 = P 0 2 := ex61.trans (mI_v i 0 2)
            obtain ⟨mx61, hmx61, emx61⟩ := i.2.1.2.2.2.2.2.2.2.1
            refine G_istore (L' := [some (.ref (e_ad E 0)), some (.int q), some (.int v), some (.int 1023), some (.int x61)]) C 64 dX11_borough_62 rfl (Nat.le_of_ble_eq_true rfl) rfl rfl ?_
            refine G_aload_n (i := 0) C 65 dX11_borough_64 rfl rfl rfl ?_
            refine X11_19g C 68 dX11_borough_65 rfl ?_
            refine G_iload_n (i := 1) C 69 dX11_borough_68 rfl rfl rfl ?_
            refine G_iload_n (i := 2) C 70 dX11_borough_69 rfl rfl rfl ?_
            refine G_iast (n := 13) C 71 (by decide) (fun σ => eMk (by decide) _ _ σ) (2) c22 (by omega) (by decide) (Nat.le_refl _) dX11_borough_70 rfl (fun s70 es70 => ?_)
            have fn_1 : Qn s s70 := Qn.tr fn ((Qm.up es70 (by unfold mR; omega)).n)
            refine G_iload C 73 dX11_borough_71 rfl rfl ?_
            have em : s_most q = 1023 := by unfold s_most; rw [if_neg c1, if_neg c12, if_pos c22]
            have cq : q.toNatClampNeg = 2 := by rw [c22]; rfl
            exact G_iret C dX11_borough_73 (⟨by unfold s_boP s_boOk s_lay; rw [if_neg k41, em, if_neg k50, cq, if_pos (by decide)]; exact RM_up hR (mI_news hI es70 (by obtain ⟨z, hz, ez⟩ := x_inR (b := 1023) k50 rfl (by decide); exact ⟨z, by omega, ez⟩)) fn_1 rfl rfl (eI_of hbI.2.2.2.2.2.1 rfl), by unfold s_boR s_boOk s_old; rw [if_neg k41, em, if_neg k50, cq, if_pos (by decide)]; exact Sx61⟩)
          ·
            have k50 := h47.symm.trans c50
            refine G_bipush (v := (-2)) C 55 dX11_borough_53 rfl rfl ?_
            have em : s_most q = 1023 := by unfold s_most; rw [if_neg c1, if_neg c12, if_pos c22]
            exact G_iret C dX11_borough_55 (⟨by unfold s_boP s_boOk; rw [if_neg k41, em, if_pos k50]; exact ⟨nT, n, l, hR⟩, by unfold s_boR s_boOk; rw [if_neg k41, em, if_pos k50]⟩)
    ·
      refine G_bipush (v := 8) C 17 dX11_borough_15 rfl rfl ?_
      refine G_goto C 33 dX11_borough_17 rfl ?_
      refine G_istore_n (i := 3) (L' := [some (.ref (e_ad E 0)), some (.int q), some (.int v), some (.int 8), none]) C 34 dX11_borough_33 rfl rfl (Nat.le_of_ble_eq_true rfl) rfl rfl ?_
      refine G_iload_n (i := 1) C 35 dX11_borough_34 rfl rfl rfl ?_
      refine G_iconst (v := 0) C 36 dX11_borough_35 rfl rfl ?_
      refine G_bipush (v := 12) C 38 dX11_borough_36 rfl rfl ?_
      refine G_calli 41 (G_runS C Kc_X11_in KS_X11_78 (by omega) (c_X11_in 0 q 0 12 s) rfl rfl (Nat.le_of_ble_eq_true rfl) rfl dX11_borough_38) rfl (fun x38 s38 h38 => ?_)
      obtain ⟨es38, h38⟩ := h38
      have es38 := es38.symm
      subst es38
      refine G_if_eq C 53 44 dX11_borough_41 rfl rfl (fun c41 => ?_) (fun c41 => ?_)
      ·
        have k41 := h38.symm.trans c41
        refine G_bipush (v := (-2)) C 55 dX11_borough_53 rfl rfl ?_
        exact G_iret C dX11_borough_55 (⟨by unfold s_boP s_boOk; rw [if_pos k41, if_pos rfl]; exact ⟨nT, n, l, hR⟩, by unfold s_boR s_boOk; rw [if_pos k41, if_pos rfl]⟩)
      ·
        have k41 := g_neT h38 c41
        obtain ⟨uq, huq, euq⟩ := x_inR (b := 12) k41 rfl (by decide)
        have cuq : q.toNatClampNeg = uq := by rw [euq, nI_clamp (by omega)]
        refine G_iload_n (i := 2) C 45 dX11_borough_44 rfl rfl rfl ?_
        refine G_iconst (v := 0) C 46 dX11_borough_45 rfl rfl ?_
        refine G_iload_n (i := 3) C 47 dX11_borough_46 rfl rfl rfl ?_
        refine G_calli 50 (G_runS C Kc_X11_in KS_X11_78 (by omega) (c_X11_in 0 v 0 8 s) rfl rfl (Nat.le_of_ble_eq_true rfl) rfl dX11_borough_47) rfl (fun x47 s47 h47 => ?_)
        obtain ⟨es47, h47⟩ := h47
        have es47 := es47.symm
        subst es47
        refine G_if_ne C 56 53 dX11_borough_50 rfl rfl (fun c50 => ?_) (fun c50 => ?_)
        ·
          have k50 := g_neT h47 c50
          refine G_aload_n (i := 0) C 57 dX11_borough_56 rfl rfl rfl ?_
          refine X11_19g C 60 dX11_borough_57 rfl ?_
          refine G_iload_n (i := 1) C 61 dX11_borough_60 rfl rfl rfl ?_
          refine G_iald (n := 13) C 62 (by decide) (eMk (by decide) _ _ _) (1) c12 (by omega) (by decide) dX11_borough_61 rfl (fun x61 ex61 => ?_)
          have Sx61 : x61 = P 0 1 := ex61.trans (mI_v i 0 1)
          obtain ⟨mx61, hmx61, emx61⟩ := i.2.1.2.2.2.2.2.2.2.2
          refine G_istore (L' := [some (.ref (e_ad E 0)), some (.int q), some (.int v), some (.int 8), some (.int x61)]) C 64 dX11_borough_62 rfl (Nat.le_of_ble_eq_true rfl) rfl rfl ?_
          refine G_aload_n (i := 0) C 65 dX11_borough_64 rfl rfl rfl ?_
          refine X11_19g C 68 dX11_borough_65 rfl ?_
          refine G_iload_n (i := 1) C 69 dX11_borough_68 rfl rfl rfl ?_
          refine G_iload_n (i := 2) C 70 dX11_borough_69 rfl rfl rfl ?_
          refine G_iast (n := 13) C 71 (by decide) (fun σ => eMk (by decide) _ _ σ) (1) c12 (by omega) (by decide) (Nat.le_refl _) dX11_borough_70 rfl (fun s70 es70 => ?_)
          have fn_1 : Qn s s70 := Qn.tr fn ((Qm.up es70 (by unfold mR; omega)).n)
          refine G_iload C 73 dX11_borough_71 rfl rfl ?_
          have em : s_most q = 8 := by unfold s_most; rw [if_neg c1, if_pos c12]
          have cq : q.toNatClampNeg = 1 := by rw [c12]; rfl
          exact G_iret C dX11_borough_73 (⟨by unfold s_boP s_boOk s_lay; rw [if_neg k41, em, if_neg k50, cq, if_pos (by decide)]; exact RM_up hR (mI_corner hI es70 (by obtain ⟨z, hz, ez⟩ := x_inR (b := 8) k50 rfl (by decide); exact ⟨z, by omega, ez⟩)) fn_1 rfl rfl (eI_of hbI.2.2.2.2.2.1 rfl), by unfold s_boR s_boOk s_old; rw [if_neg k41, em, if_neg k50, cq, if_pos (by decide)]; exact Sx61⟩)
        ·
          have k50 := h47.symm.trans c50
          refine G_bipush (v := (-2)) C 55 dX11_borough_53 rfl rfl ?_
          have em : s_most q = 8 := by unfold s_most; rw [if_neg c1, if_pos c12]
          exact G_iret C dX11_borough_55 (⟨by unfold s_boP s_boOk; rw [if_neg k41, em, if_pos k50]; exact ⟨nT, n, l, hR⟩, by unfold s_boR s_boOk; rw [if_neg k41, em, if_pos k50]⟩)
  ·
    refine G_sipush (v := 9999) C 7 dX11_borough_4 rfl rfl ?_
    refine G_goto C 33 dX11_borough_7 rfl ?_
    refine G_istore_n (i := 3) (L' := [some (.ref (e_ad E 0)), some (.int q), some (.int v), some (.int 9999), none]) C 34 dX11_borough_33 rfl rfl (Nat.le_of_ble_eq_true rfl) rfl rfl ?_
    refine G_iload_n (i := 1) C 35 dX11_borough_34 rfl rfl rfl ?_
    refine G_iconst (v := 0) C 36 dX11_borough_35 rfl rfl ?_
    refine G_bipush (v := 12) C 38 dX11_borough_36 rfl rfl ?_
    refine G_calli 41 (G_runS C Kc_X11_in KS_X11_78 (by omega) (c_X11_in 0 q 0 12 s) rfl rfl (Nat.le_of_ble_eq_true rfl) rfl dX11_borough_38) rfl (fun x38 s38 h38 => ?_)
    obtain ⟨es38, h38⟩ := h38
    have es38 := es38.symm
    subst es38
    refine G_if_eq C 53 44 dX11_borough_41 rfl rfl (fun c41 => ?_) (fun c41 => ?_)
    ·
      have k41 := h38.symm.trans c41
      refine G_bipush (v := (-2)) C 55 dX11_borough_53 rfl rfl ?_
      exact G_iret C dX11_borough_55 (⟨by unfold s_boP s_boOk; rw [if_pos k41, if_pos rfl]; exact ⟨nT, n, l, hR⟩, by unfold s_boR s_boOk; rw [if_pos k41, if_pos rfl]⟩)
    ·
      have k41 := g_neT h38 c41
      obtain ⟨uq, huq, euq⟩ := x_inR (b := 12) k41 rfl (by decide)
      have cuq : q.toNatClampNeg = uq := by rw [euq, nI_clamp (by omega)]
      refine G_iload_n (i := 2) C 45 dX11_borough_44 rfl rfl rfl ?_
      refine G_iconst (v := 0) C 46 dX11_borough_45 rfl rfl ?_
      refine G_iload_n (i := 3) C 47 dX11_borough_46 rfl rfl rfl ?_
      refine G_calli 50 (G_runS C Kc_X11_in KS_X11_78 (by omega) (c_X11_in 0 v 0 9999 s) rfl rfl (Nat.le_of_ble_eq_true rfl) rfl dX11_borough_47) rfl (fun x47 s47 h47 => ?_)
      obtain ⟨es47, h47⟩ := h47
      have es47 := es47.symm
      subst es47
      refine G_if_ne C 56 53 dX11_borough_50 rfl rfl (fun c50 => ?_) (fun c50 => ?_)
      ·
        have k50 := g_neT h47 c50
        refine G_aload_n (i := 0) C 57 dX11_borough_56 rfl rfl rfl ?_
        refine X11_19g C 60 dX11_borough_57 rfl ?_
        refine G_iload_n (i := 1) C 61 dX11_borough_60 rfl rfl rfl ?_
        refine G_iald (n := 13) C 62 (by decide) (eMk (by decide) _ _ _) (0) c1 (by omega) (by decide) dX11_borough_61 rfl (fun x61 ex61 => ?_)
        have Sx61 : x61 = P 0 0 := ex61.trans (mI_v i 0 0)
        refine G_istore (L' := [some (.ref (e_ad E 0)), some (.int q), some (.int v), some (.int 9999), some (.int x61)]) C 64 dX11_borough_62 rfl (Nat.le_of_ble_eq_true rfl) rfl rfl ?_
        refine G_aload_n (i := 0) C 65 dX11_borough_64 rfl rfl rfl ?_
        refine X11_19g C 68 dX11_borough_65 rfl ?_
        refine G_iload_n (i := 1) C 69 dX11_borough_68 rfl rfl rfl ?_
        refine G_iload_n (i := 2) C 70 dX11_borough_69 rfl rfl rfl ?_
        refine G_iast (n := 13) C 71 (by decide) (fun σ => eMk (by decide) _ _ σ) (0) c1 (by omega) (by decide) (Nat.le_refl _) dX11_borough_70 rfl (fun s70 es70 => ?_)
        have fn_1 : Qn s s70 := Qn.tr fn ((Qm.up es70 (by unfold mR; omega)).n)
        refine G_iload C 73 dX11_borough_71 rfl rfl ?_
        have em : s_most q = 9999 := by unfold s_most; rw [if_pos c1]
        have cq : q.toNatClampNeg = 0 := by rw [c1]; rfl
        exact G_iret C dX11_borough_73 (⟨by unfold s_boP s_boOk s_lay; rw [if_neg k41, em, if_neg k50, cq, if_pos (by decide)]; exact RM_up hR (mI_hour hI es70) fn_1 rfl rfl (eI_of hbI.2.2.2.2.2.1 rfl), by unfold s_boR s_boOk s_old; rw [if_neg k41, em, if_neg k50, cq, if_pos (by decide)]; exact Sx61⟩)
      ·
        have k50 := h47.symm.trans c50
        refine G_bipush (v := (-2)) C 55 dX11_borough_53 rfl rfl ?_
        have em : s_most q = 9999 := by unfold s_most; rw [if_pos c1]
        exact G_iret C dX11_borough_55 (⟨by unfold s_boP s_boOk; rw [if_neg k41, em, if_pos k50]; exact ⟨nT, n, l, hR⟩, by unfold s_boR s_boOk; rw [if_neg k41, em, if_pos k50]⟩)
theorem dX11_crier_0 : decode cX11_crier 0 = .ok (.iload_n 1, 1) := by decide +kernel
theorem dX11_crier_1 : decode cX11_crier 1 = .ok (.bipush 13, 2) := by decide +kernel
theorem dX11_crier_3 : decode cX11_crier 3 = .ok (.if_icmp .ne 10, 3) := by decide +kernel
theorem dX11_crier_6 : decode cX11_crier 6 = .ok (.aload_n 0, 1) := by decide +kernel
theorem dX11_crier_7 : decode cX11_crier 7 = .ok (.invokevirtual 92, 3) := by decide +kernel
theorem dX11_crier_10 : decode cX11_crier 10 = .ok (.goto 24, 3) := by decide +kernel
theorem dX11_crier_13 : decode cX11_crier 13 = .ok (.iload_n 1, 1) := by decide +kernel
theorem dX11_crier_14 : decode cX11_crier 14 = .ok (.iconst 0, 1) := by decide +kernel
theorem dX11_crier_15 : decode cX11_crier 15 = .ok (.bipush 12, 2) := by decide +kernel
theorem dX11_crier_17 : decode cX11_crier 17 = .ok (.invokestatic 78, 3) := by decide +kernel
theorem dX11_crier_20 : decode cX11_crier 20 = .ok (.ifCond .eq 12, 3) := by decide +kernel
theorem dX11_crier_23 : decode cX11_crier 23 = .ok (.aload_n 0, 1) := by decide +kernel
theorem dX11_crier_24 : decode cX11_crier 24 = .ok (.getfield 19, 3) := by decide +kernel
theorem dX11_crier_27 : decode cX11_crier 27 = .ok (.iload_n 1, 1) := by decide +kernel
theorem dX11_crier_28 : decode cX11_crier 28 = .ok (.iaload, 1) := by decide +kernel
theorem dX11_crier_29 : decode cX11_crier 29 = .ok (.goto 5, 3) := by decide +kernel
theorem dX11_crier_32 : decode cX11_crier 32 = .ok (.bipush (-2), 2) := by decide +kernel
theorem dX11_crier_34 : decode cX11_crier 34 = .ok (.ireturn, 1) := by decide +kernel
set_option maxHeartbeats 4000000 in
set_option maxRecDepth 100000 in
theorem c_X11_crier (d : Nat) (TX : gTX) (P B s : gS) (hR0 : RM TX P B s) (q : Int32) : gMt SM yX11_crier cX11_crier 2 (some .int) (d + 9) (fun ad => [.ref (ad 0), .int q]) s (gQi SM (fun r s' => RM TX P B s' ∧ r = s_crier TX P q)) := by
  obtain ⟨nT, n, l, hR⟩ := hR0
  have hI := hR.1
  have hn6 : n ≤ 6 := hI.2.1.2.1
  have hl6 : l < 6 := mI_l6 hI
  have hxn : x_n P = n := x_nOf hI.2.1.1 hn6
  have hbI := hR.2.2
  have hnT6 : nT ≤ 6 := hI.2.1.2.2.2.2.1
  obtain ⟨tn0, htn0, etn0⟩ := hbI.2.1
  refine gMt_of SM_ok (by decide +kernel) (fun ad => [some (.ref (ad 0)), some (.int q)]) (fun _ => rfl) (fun _ => rfl) (fun _ => Nat.le_of_ble_eq_true rfl) (fun E C0 => ?_)
  have C : gCx SM E RX11 cX11_crier 2 (some .int) (d + 9) := C0
  have fn : Qn s s := Qn.rf
  have i : mI TX nT n l P s := hI
  refine G_iload_n (i := 1) C 1 dX11_crier_0 rfl rfl rfl ?_
  refine G_bipush (v := 13) C 3 dX11_crier_1 rfl rfl ?_
  refine G_icmp_ne C 13 6 dX11_crier_3 rfl rfl (fun c3 => ?_) (fun c3 => ?_)
  ·
    refine G_iload_n (i := 1) C 14 dX11_crier_13 rfl rfl rfl ?_
    refine G_iconst (v := 0) C 15 dX11_crier_14 rfl rfl ?_
    refine G_bipush (v := 12) C 17 dX11_crier_15 rfl rfl ?_
    refine G_calli 20 (G_runS C Kc_X11_in KS_X11_78 (by omega) (c_X11_in 0 q 0 12 s) rfl rfl (Nat.le_of_ble_eq_true rfl) rfl dX11_crier_17) rfl (fun x17 s17 h17 => ?_)
    obtain ⟨es17, h17⟩ := h17
    have es17 := es17.symm
    subst es17
    refine G_if_eq C 32 23 dX11_crier_20 rfl rfl (fun c20 => ?_) (fun c20 => ?_)
    ·
      have k20 := h17.symm.trans c20
      refine G_bipush (v := (-2)) C 34 dX11_crier_32 rfl rfl ?_
      exact G_iret C dX11_crier_34 (⟨⟨nT, n, l, hR⟩, by unfold s_crier; rw [if_neg c3, if_pos k20]⟩)
    ·
      have k20 := g_neT h17 c20
      obtain ⟨uq, huq, euq⟩ := x_inR (b := 12) k20 rfl (by decide)
      have cuq : q.toNatClampNeg = uq := by rw [euq, nI_clamp (by omega)]
      refine G_aload_n (i := 0) C 24 dX11_crier_23 rfl rfl rfl ?_
      refine X11_19g C 27 dX11_crier_24 rfl ?_
      refine G_iload_n (i := 1) C 28 dX11_crier_27 rfl rfl rfl ?_
      refine G_iald (n := 13) C 29 (by decide) (eMk (by decide) _ _ _) (uq) euq (by omega) (by decide) dX11_crier_28 rfl (fun x28 ex28 => ?_)
      have Sx28 : x28 = (if uq < 3 then P 0 uq else P 1 (uq - 3)) := by
        rw [ex28]
        by_cases h : uq < 3
        · rw [if_pos h]
          have : uq = 0 ∨ uq = 1 ∨ uq = 2 := by omega
          rcases this with z | z | z <;> rw [z] <;> first | exact mI_v hI 0 0 | exact mI_v hI 0 1 | exact mI_v hI 0 2
        · rw [if_neg h]
          have z : s 4 (3 + (uq - 3)) = P 1 (uq - 3) := mI_v hI 1 (uq - 3)
          rw [show 3 + (uq - 3) = uq by omega] at z
          exact z
      refine G_goto C 34 dX11_crier_29 rfl ?_
      exact G_iret C dX11_crier_34 (⟨⟨nT, n, l, hR⟩, by unfold s_crier s_old; rw [if_neg c3, if_neg k20, cuq]; exact Sx28⟩)
  ·
    refine G_aload_n (i := 0) C 7 dX11_crier_6 rfl rfl rfl ?_
    refine G_calli 10 (G_runV C Kc_X11_criedNow KV_X11_92 (by omega) (by decide) (eM _ _ _) rfl (c_X11_criedNow 0 TX nT n l P s i) rfl rfl rfl (Nat.le_of_ble_eq_true rfl) rfl dX11_crier_7) rfl (fun x7 s7 h7 => ?_)
    have fn_1 : Qn s s7 := Qn.tr fn (h7.1.MR)
    have i_1 : mI TX nT n l P s7 := mI_fr i (h7.1)
    refine G_goto C 34 dX11_crier_10 rfl ?_
    exact G_iret C dX11_crier_34 (⟨RM_i hR i_1 fn_1, h7.2.trans (by unfold s_crier; rw [if_pos c3])⟩)
theorem dX11_feed_0 : decode cX11_feed 0 = .ok (.iload_n 1, 1) := by decide +kernel
theorem dX11_feed_1 : decode cX11_feed 1 = .ok (.iconst 1, 1) := by decide +kernel
theorem dX11_feed_2 : decode cX11_feed 2 = .ok (.iconst 5, 1) := by decide +kernel
theorem dX11_feed_3 : decode cX11_feed 3 = .ok (.invokestatic 78, 3) := by decide +kernel
theorem dX11_feed_6 : decode cX11_feed 6 = .ok (.ifCond .eq 41, 3) := by decide +kernel
theorem dX11_feed_9 : decode cX11_feed 9 = .ok (.iload_n 2, 1) := by decide +kernel
theorem dX11_feed_10 : decode cX11_feed 10 = .ok (.invokestatic 95, 3) := by decide +kernel
theorem dX11_feed_13 : decode cX11_feed 13 = .ok (.ifCond .eq 34, 3) := by decide +kernel
theorem dX11_feed_16 : decode cX11_feed 16 = .ok (.iload_n 3, 1) := by decide +kernel
theorem dX11_feed_17 : decode cX11_feed 17 = .ok (.invokestatic 95, 3) := by decide +kernel
theorem dX11_feed_20 : decode cX11_feed 20 = .ok (.ifCond .eq 27, 3) := by decide +kernel
theorem dX11_feed_23 : decode cX11_feed 23 = .ok (.iload 4, 2) := by decide +kernel
theorem dX11_feed_25 : decode cX11_feed 25 = .ok (.invokestatic 95, 3) := by decide +kernel
theorem dX11_feed_28 : decode cX11_feed 28 = .ok (.ifCond .eq 19, 3) := by decide +kernel
theorem dX11_feed_31 : decode cX11_feed 31 = .ok (.iload 5, 2) := by decide +kernel
theorem dX11_feed_33 : decode cX11_feed 33 = .ok (.invokestatic 95, 3) := by decide +kernel
theorem dX11_feed_36 : decode cX11_feed 36 = .ok (.ifCond .eq 11, 3) := by decide +kernel
theorem dX11_feed_39 : decode cX11_feed 39 = .ok (.iload 6, 2) := by decide +kernel
theorem dX11_feed_41 : decode cX11_feed 41 = .ok (.invokestatic 95, 3) := by decide +kernel
theorem dX11_feed_44 : decode cX11_feed 44 = .ok (.ifCond .ne 6, 3) := by decide +kernel
theorem dX11_feed_47 : decode cX11_feed 47 = .ok (.bipush (-2), 2) := by decide +kernel
theorem dX11_feed_49 : decode cX11_feed 49 = .ok (.ireturn, 1) := by decide +kernel
theorem dX11_feed_50 : decode cX11_feed 50 = .ok (.aload_n 0, 1) := by decide +kernel
theorem dX11_feed_51 : decode cX11_feed 51 = .ok (.getfield 67, 3) := by decide +kernel
theorem dX11_feed_54 : decode cX11_feed 54 = .ok (.iload_n 1, 1) := by decide +kernel
theorem dX11_feed_55 : decode cX11_feed 55 = .ok (.iadd, 1) := by decide +kernel
theorem dX11_feed_56 : decode cX11_feed 56 = .ok (.sipush 160, 3) := by decide +kernel
theorem dX11_feed_59 : decode cX11_feed 59 = .ok (.if_icmp .le 6, 3) := by decide +kernel
theorem dX11_feed_62 : decode cX11_feed 62 = .ok (.bipush (-4), 2) := by decide +kernel
theorem dX11_feed_64 : decode cX11_feed 64 = .ok (.ireturn, 1) := by decide +kernel
theorem dX11_feed_65 : decode cX11_feed 65 = .ok (.iconst 0, 1) := by decide +kernel
theorem dX11_feed_66 : decode cX11_feed 66 = .ok (.istore 7, 2) := by decide +kernel
theorem dX11_feed_68 : decode cX11_feed 68 = .ok (.iload 7, 2) := by decide +kernel
theorem dX11_feed_70 : decode cX11_feed 70 = .ok (.iload_n 1, 1) := by decide +kernel
theorem dX11_feed_71 : decode cX11_feed 71 = .ok (.if_icmp .ge 71, 3) := by decide +kernel
theorem dX11_feed_74 : decode cX11_feed 74 = .ok (.aload_n 0, 1) := by decide +kernel
theorem dX11_feed_75 : decode cX11_feed 75 = .ok (.getfield 22, 3) := by decide +kernel
theorem dX11_feed_78 : decode cX11_feed 78 = .ok (.aload_n 0, 1) := by decide +kernel
theorem dX11_feed_79 : decode cX11_feed 79 = .ok (.getfield 67, 3) := by decide +kernel
theorem dX11_feed_82 : decode cX11_feed 82 = .ok (.iload 7, 2) := by decide +kernel
theorem dX11_feed_84 : decode cX11_feed 84 = .ok (.ifCond .ne 7, 3) := by decide +kernel
theorem dX11_feed_87 : decode cX11_feed 87 = .ok (.iload_n 2, 1) := by decide +kernel
theorem dX11_feed_88 : decode cX11_feed 88 = .ok (.goto 37, 3) := by decide +kernel
theorem dX11_feed_91 : decode cX11_feed 91 = .ok (.iload 7, 2) := by decide +kernel
theorem dX11_feed_93 : decode cX11_feed 93 = .ok (.iconst 1, 1) := by decide +kernel
theorem dX11_feed_94 : decode cX11_feed 94 = .ok (.if_icmp .ne 7, 3) := by decide +kernel
theorem dX11_feed_97 : decode cX11_feed 97 = .ok (.iload_n 3, 1) := by decide +kernel
theorem dX11_feed_98 : decode cX11_feed 98 = .ok (.goto 27, 3) := by decide +kernel
theorem dX11_feed_101 : decode cX11_feed 101 = .ok (.iload 7, 2) := by decide +kernel
theorem dX11_feed_103 : decode cX11_feed 103 = .ok (.iconst 2, 1) := by decide +kernel
theorem dX11_feed_104 : decode cX11_feed 104 = .ok (.if_icmp .ne 8, 3) := by decide +kernel
theorem dX11_feed_107 : decode cX11_feed 107 = .ok (.iload 4, 2) := by decide +kernel
theorem dX11_feed_109 : decode cX11_feed 109 = .ok (.goto 16, 3) := by decide +kernel
theorem dX11_feed_112 : decode cX11_feed 112 = .ok (.iload 7, 2) := by decide +kernel
theorem dX11_feed_114 : decode cX11_feed 114 = .ok (.iconst 3, 1) := by decide +kernel
theorem dX11_feed_115 : decode cX11_feed 115 = .ok (.if_icmp .ne 8, 3) := by decide +kernel
theorem dX11_feed_118 : decode cX11_feed 118 = .ok (.iload 5, 2) := by decide +kernel
theorem dX11_feed_120 : decode cX11_feed 120 = .ok (.goto 5, 3) := by decide +kernel
theorem dX11_feed_123 : decode cX11_feed 123 = .ok (.iload 6, 2) := by decide +kernel
theorem dX11_feed_125 : decode cX11_feed 125 = .ok (.iastore, 1) := by decide +kernel
theorem dX11_feed_126 : decode cX11_feed 126 = .ok (.aload_n 0, 1) := by decide +kernel
theorem dX11_feed_127 : decode cX11_feed 127 = .ok (.dup, 1) := by decide +kernel
theorem dX11_feed_128 : decode cX11_feed 128 = .ok (.getfield 67, 3) := by decide +kernel
theorem dX11_feed_131 : decode cX11_feed 131 = .ok (.iconst 1, 1) := by decide +kernel
theorem dX11_feed_132 : decode cX11_feed 132 = .ok (.iadd, 1) := by decide +kernel
theorem dX11_feed_133 : decode cX11_feed 133 = .ok (.putfield 67, 3) := by decide +kernel
theorem dX11_feed_136 : decode cX11_feed 136 = .ok (.iinc 7 1, 3) := by decide +kernel
theorem dX11_feed_139 : decode cX11_feed 139 = .ok (.goto (-71), 3) := by decide +kernel
theorem dX11_feed_142 : decode cX11_feed 142 = .ok (.aload_n 0, 1) := by decide +kernel
theorem dX11_feed_143 : decode cX11_feed 143 = .ok (.getfield 67, 3) := by decide +kernel
theorem dX11_feed_146 : decode cX11_feed 146 = .ok (.ireturn, 1) := by decide +kernel
set_option maxHeartbeats 4000000 in
set_option maxRecDepth 100000 in
theorem c_X11_feed (d : Nat) (TX : gTX) (P B s : gS) (hR0 : RM TX P B s) (m a1 a2 a3 a4 a5 : Int32) : gMt SM yX11_feed cX11_feed 8 (some .int) (d + 3) (fun ad => [.ref (ad 0), .int m, .int a1, .int a2, .int a3, .int a4, .int a5]) s (gQi SM (fun r s' => RM TX P (s_feedB B m a1 a2 a3 a4 a5) s' ∧ r = s_feedR B m a1 a2 a3 a4 a5)) := by
  obtain ⟨nT, n, l, hR⟩ := hR0
  have hI := hR.1
  have hn6 : n ≤ 6 := hI.2.1.2.1
  have hl6 : l < 6 := mI_l6 hI
  have hxn : x_n P = n := x_nOf hI.2.1.1 hn6
  have hbI := hR.2.2
  have hnT6 : nT ≤ 6 := hI.2.1.2.2.2.2.1
  obtain ⟨tn0, htn0, etn0⟩ := hbI.2.1
  refine gMt_of SM_ok (by decide +kernel) (fun ad => [some (.ref (ad 0)), some (.int m), some (.int a1), some (.int a2), some (.int a3), some (.int a4), some (.int a5), none]) (fun _ => rfl) (fun _ => rfl) (fun _ => Nat.le_of_ble_eq_true rfl) (fun E C0 => ?_)
  have C : gCx SM E RX11 cX11_feed 8 (some .int) (d + 3) := C0
  have r : Rm TX nT n l P B s := hR
  refine G_iload_n (i := 1) C 1 dX11_feed_0 rfl rfl rfl ?_
  refine G_iconst (v := 1) C 2 dX11_feed_1 rfl rfl ?_
  refine G_iconst (v := 5) C 3 dX11_feed_2 rfl rfl ?_
  refine G_calli 6 (G_runS C Kc_X11_in KS_X11_78 (by omega) (c_X11_in 0 m 1 5 s) rfl rfl (Nat.le_of_ble_eq_true rfl) rfl dX11_feed_3) rfl (fun x3 s3 h3 => ?_)
  obtain ⟨es3, h3⟩ := h3
  have es3 := es3.symm
  subst es3
  refine G_if_eq C 47 9 dX11_feed_6 rfl rfl (fun c6 => ?_) (fun c6 => ?_)
  ·
    have k6 := h3.symm.trans c6
    refine G_bipush (v := (-2)) C 49 dX11_feed_47 rfl rfl ?_
    exact G_iret C dX11_feed_49 (⟨by unfold s_feedB s_feedOk; rw [if_pos k6, if_pos rfl]; exact ⟨nT, n, l, hR⟩, by unfold s_feedR s_feedOk; rw [if_pos k6, if_pos rfl]⟩)
  ·
    have k6 := g_neT h3 c6
    obtain ⟨um, gum, hum, eum⟩ := x_inR1 (b := 5) k6 rfl (by decide)
    have cum : m.toNatClampNeg = um := by rw [eum, nI_clamp (by omega)]
    refine G_iload_n (i := 2) C 10 dX11_feed_9 rfl rfl rfl ?_
    refine G_calli 13 (G_runS C Kc_X11_isByte KS_X11_95 (by omega) (c_X11_isByte 0 a1 s) rfl rfl (Nat.le_of_ble_eq_true rfl) rfl dX11_feed_10) rfl (fun x10 s10 h10 => ?_)
    obtain ⟨es10, h10⟩ := h10
    have es10 := es10.symm
    subst es10
    refine G_if_eq C 47 16 dX11_feed_13 rfl rfl (fun c13 => ?_) (fun c13 => ?_)
    ·
      have k13 := h10.symm.trans c13
      refine G_bipush (v := (-2)) C 49 dX11_feed_47 rfl rfl ?_
      exact G_iret C dX11_feed_49 (⟨by unfold s_feedB s_feedOk; rw [if_neg k6, if_pos k13, if_pos rfl]; exact ⟨nT, n, l, hR⟩, by unfold s_feedR s_feedOk; rw [if_neg k6, if_pos k13, if_pos rfl]⟩)
    ·
      have k13 := g_neT h10 c13
      refine G_iload_n (i := 3) C 17 dX11_feed_16 rfl rfl rfl ?_
      refine G_calli 20 (G_runS C Kc_X11_isByte KS_X11_95 (by omega) (c_X11_isByte 0 a2 s) rfl rfl (Nat.le_of_ble_eq_true rfl) rfl dX11_feed_17) rfl (fun x17 s17 h17 => ?_)
      obtain ⟨es17, h17⟩ := h17
      have es17 := es17.symm
      subst es17
      refine G_if_eq C 47 23 dX11_feed_20 rfl rfl (fun c20 => ?_) (fun c20 => ?_)
      ·
        have k20 := h17.symm.trans c20
        refine G_bipush (v := (-2)) C 49 dX11_feed_47 rfl rfl ?_
        exact G_iret C dX11_feed_49 (⟨by unfold s_feedB s_feedOk; rw [if_neg k6, if_neg k13, if_pos k20, if_pos rfl]; exact ⟨nT, n, l, hR⟩, by unfold s_feedR s_feedOk; rw [if_neg k6, if_neg k13, if_pos k20, if_pos rfl]⟩)
      ·
        have k20 := g_neT h17 c20
        refine G_iload C 25 dX11_feed_23 rfl rfl ?_
        refine G_calli 28 (G_runS C Kc_X11_isByte KS_X11_95 (by omega) (c_X11_isByte 0 a3 s) rfl rfl (Nat.le_of_ble_eq_true rfl) rfl dX11_feed_25) rfl (fun x25 s25 h25 => ?_)
        obtain ⟨es25, h25⟩ := h25
        have es25 := es25.symm
        subst es25
        refine G_if_eq C 47 31 dX11_feed_28 rfl rfl (fun c28 => ?_) (fun c28 => ?_)
        ·
          have k28 := h25.symm.trans c28
          refine G_bipush (v := (-2)) C 49 dX11_feed_47 rfl rfl ?_
          exact G_iret C dX11_feed_49 (⟨by unfold s_feedB s_feedOk; rw [if_neg k6, if_neg k13, if_neg k20, if_pos k28, if_pos rfl]; exact ⟨nT, n, l, hR⟩, by unfold s_feedR s_feedOk; rw [if_neg k6, if_neg k13, if_neg k20, if_pos k28, if_pos rfl]⟩)
        ·
          have k28 := g_neT h25 c28
          refine G_iload C 33 dX11_feed_31 rfl rfl ?_
          refine G_calli 36 (G_runS C Kc_X11_isByte KS_X11_95 (by omega) (c_X11_isByte 0 a4 s) rfl rfl (Nat.le_of_ble_eq_true rfl) rfl dX11_feed_33) rfl (fun x33 s33 h33 => ?_)
          obtain ⟨es33, h33⟩ := h33
          have es33 := es33.symm
          subst es33
          refine G_if_eq C 47 39 dX11_feed_36 rfl rfl (fun c36 => ?_) (fun c36 => ?_)
          ·
            have k36 := h33.symm.trans c36
            refine G_bipush (v := (-2)) C 49 dX11_feed_47 rfl rfl ?_
            exact G_iret C dX11_feed_49 (⟨by unfold s_feedB s_feedOk; rw [if_neg k6, if_neg k13, if_neg k20, if_neg k28, if_pos k36, if_pos rfl]; exact ⟨nT, n, l, hR⟩, by unfold s_feedR s_feedOk; rw [if_neg k6, if_neg k13, if_neg k20, if_neg k28, if_pos k36, if_pos rfl]⟩)
          ·
            have k36 := g_neT h33 c36
            refine G_iload C 41 dX11_feed_39 rfl rfl ?_
            refine G_calli 44 (G_runS C Kc_X11_isByte KS_X11_95 (by omega) (c_X11_isByte 0 a5 s) rfl rfl (Nat.le_of_ble_eq_true rfl) rfl dX11_feed_41) rfl (fun x41 s41 h41 => ?_)
            obtain ⟨es41, h41⟩ := h41
            have es41 := es41.symm
            subst es41
            refine G_if_ne C 50 47 dX11_feed_44 rfl rfl (fun c44 => ?_) (fun c44 => ?_)
            ·
              have k44 := g_neT h41 c44
              refine G_aload_n (i := 0) C 51 dX11_feed_50 rfl rfl rfl ?_
              refine X11_67g C 54 dX11_feed_51 rfl (fun x51 ex51 => ?_)
              have Sx51 : x51 = B 0 1 := ex51.trans (congrFun (congrFun hR.2.1 0) 1)
              refine G_iload_n (i := 1) C 55 dX11_feed_54 rfl rfl rfl ?_
              refine G_iadd C 56 dX11_feed_55 rfl (fun x55 ex55 => ?_)
              have Nx55 : x55 = nI (tn0 + um) := g_addN ex55 (Sx51.trans etn0) eum
              refine G_sipush (v := 160) C 59 dX11_feed_56 rfl rfl ?_
              refine G_icmp_le C 65 62 dX11_feed_59 rfl rfl (fun c59 => ?_) (fun c59 => ?_)
              ·
                have n59 : ¬ 160 < (tn0 + um) := fun h => c59 ((g_ltN (a := 160) (b := (tn0 + um)) (hx := rfl) (hy := Nx55) (by omega) (by omega)).mpr h)
                refine G_iconst (v := 0) C 66 dX11_feed_65 rfl rfl ?_
                refine G_istore (L' := [some (.ref (e_ad E 0)), some (.int m), some (.int a1), some (.int a2), some (.int a3), some (.int a4), some (.int a5), some (.int 0)]) C 68 dX11_feed_66 rfl (Nat.le_of_ble_eq_true rfl) rfl rfl ?_
                have L68 : ∀ (f68 : Nat) (k : Nat) (y : Int32) (sl68 : gS) (Ey : y = nI k) (hk : k ≤ um) (rl68 : Rm TX nT n l P (s_feedN B a1 a2 a3 a4 a5 k) sl68), um < k + f68 → GW SM E (gFin SM E (gQi SM (fun r s' => RM TX P (s_feedB B m a1 a2 a3 a4 a5) s' ∧ r = s_feedR B m a1 a2 a3 a4 a5))) 68 [some (.ref (e_ad E 0)), some (.int m), some (.int a1), some (.int a2), some (.int a3), some (.int a4), some (.int a5), some (.int y)] [] sl68 := by
                  intro f68
                  induction f68 with
                  | zero =>
                    intro k y sl68 Ey hk rl68 hf68
                    exact absurd hf68 (by omega)
                  | succ f68 ih68 =>
                    intro k y sl68 Ey hk rl68 hf68
                    refine G_iload C 70 dX11_feed_68 rfl rfl ?_
                    refine G_iload_n (i := 1) C 71 dX11_feed_70 rfl rfl rfl ?_
                    refine G_icmp_ge C 142 74 dX11_feed_71 rfl rfl (fun c71 => ?_) (fun c71 => ?_)
                    ·
                      have n71 : ¬ k < um := fun h => c71 ((g_ltN (a := k) (b := um) (hx := Ey) (hy := eum) (by omega) (by omega)).mpr h)
                      refine G_aload_n (i := 0) C 143 dX11_feed_142 rfl rfl rfl ?_
                      refine X11_67g C 146 dX11_feed_143 rfl (fun x143 ex143 => ?_)
                      exact G_iret C dX11_feed_146 (⟨by unfold s_feedB s_feedOk; rw [if_neg k6, if_neg k13, if_neg k20, if_neg k28, if_neg k36, if_neg k44, ← Sx51, ← ex55, if_neg c59, cum, show um = k by omega]; exact ⟨nT, n, l, rl68⟩, by unfold s_feedR s_feedOk; rw [if_neg k6, if_neg k13, if_neg k20, if_neg k28, if_neg k36, if_neg k44, ← Sx51, ← ex55, if_neg c59, ex143, ex55]; rw [show sl68 0 6 = mB sl68 0 1 from rfl, rl68.2.1, s_feed01 B a1 a2 a3 a4 a5 etn0, Sx51, etn0, eum, show um = k by omega, nI_add]⟩)
                    ·
                      have n71 : k < um := (g_ltN (a := k) (b := um) (hx := Ey) (hy := eum) (by omega) (by omega)).mp c71
                      refine G_aload_n (i := 0) C 75 dX11_feed_74 rfl rfl rfl ?_
                      refine X11_22g C 78 dX11_feed_75 rfl ?_
                      refine G_aload_n (i := 0) C 79 dX11_feed_78 rfl rfl rfl ?_
                      refine X11_67g C 82 dX11_feed_79 rfl (fun x79 ex79 => ?_)
                      have Sx79 : x79 = nI (tn0 + k) := ex79.trans ((congrFun (congrFun rl68.2.1 0) 1).trans (s_feed01 B a1 a2 a3 a4 a5 etn0 k))
                      refine G_iload C 84 dX11_feed_82 rfl rfl ?_
                      refine G_if_ne C 91 87 dX11_feed_84 rfl rfl (fun c84 => ?_) (fun c84 => ?_)
                      ·
                        have n84 : ¬ k = 0 := fun h => c84 ((g_eqN (a := k) (b := 0) (hx := Ey) (hy := rfl) (by omega) (by omega)).mpr h)
                        refine G_iload C 93 dX11_feed_91 rfl rfl ?_
                        refine G_iconst (v := 1) C 94 dX11_feed_93 rfl rfl ?_
                        refine G_icmp_ne C 101 97 dX11_feed_94 rfl rfl (fun c94 => ?_) (fun c94 => ?_)
                        ·
                          have n94 : ¬ k = 1 := fun h => c94 ((g_eqN (a := k) (b := 1) (hx := Ey) (hy := rfl) (by omega) (by omega)).mpr h)
                          refine G_iload C 103 dX11_feed_101 rfl rfl ?_
                          refine G_iconst (v := 2) C 104 dX11_feed_103 rfl rfl ?_
                          refine G_icmp_ne C 112 107 dX11_feed_104 rfl rfl (fun c104 => ?_) (fun c104 => ?_)
                          ·
                            have n104 : ¬ k = 2 := fun h => c104 ((g_eqN (a := k) (b := 2) (hx := Ey) (hy := rfl) (by omega) (by omega)).mpr h)
                            refine G_iload C 114 dX11_feed_112 rfl rfl ?_
                            refine G_iconst (v := 3) C 115 dX11_feed_114 rfl rfl ?_
                            refine G_icmp_ne C 123 118 dX11_feed_115 rfl rfl (fun c115 => ?_) (fun c115 => ?_)
                            ·
                              have n115 : ¬ k = 3 := fun h => c115 ((g_eqN (a := k) (b := 3) (hx := Ey) (hy := rfl) (by omega) (by omega)).mpr h)
                              refine G_iload C 125 dX11_feed_123 rfl rfl ?_
                              refine G_iast (n := 160) C 126 (by decide) (fun σ => eMk (by decide) _ _ σ) ((tn0 + k)) Sx79 (by omega) (by decide) (Nat.le_refl _) dX11_feed_125 rfl (fun s125 es125 => ?_)
                              have r_1 : True := trivial
                              refine G_aload_n (i := 0) C 127 dX11_feed_126 rfl rfl rfl ?_
                              refine G_dup C 128 dX11_feed_127 rfl rfl ?_
                              refine X11_67g C 131 dX11_feed_128 rfl (fun x128 ex128 => ?_)
                              refine G_iconst (v := 1) C 132 dX11_feed_131 rfl rfl ?_
                              refine G_iadd C 133 dX11_feed_132 rfl (fun x132 ex132 => ?_)
                              refine X11_67p C 136 dX11_feed_133 rfl (fun s133 es133 => ?_)
                              have r_2 : Rm TX nT n l P (s_feedN B a1 a2 a3 a4 a5 (k + 1)) s133 := by
                                      have hp : s_pick k a1 a2 a3 a4 a5 = a5 := by unfold s_pick; rw [if_neg n84, if_neg n94, if_neg n104, if_neg n115]
                                      rw [s_feedN, hp]
                                      refine Rm_add rl68 (s_feed01 B a1 a2 a3 a4 a5 etn0 k) (by omega) (by obtain ⟨z, hz, ez⟩ := x_inR (b := 255) k44 rfl (by decide); exact ⟨z, by omega, ez⟩) ?_
                                      rw [es133, ex132, ex128, es125, g_up_n (by decide)]
                              refine G_iinc (w := 1) C 139 dX11_feed_136 rfl rfl rfl rfl (fun x136 ex136 => ?_)
                              have Nx136 : x136 = nI (k + 1) := g_addN ex136 Ey rfl
                              show GW SM E _ 139 [some (.ref (e_ad E 0)), some (.int m), some (.int a1), some (.int a2), some (.int a3), some (.int a4), some (.int a5), some (.int x136)] [] s133
                              refine G_goto C 68 dX11_feed_139 rfl ?_
                              exact ih68 (k + 1) x136 s133 (g_cn (a := (k + 1)) Nx136 (by first | rfl | omega | (simp only [List.length_cons, List.length_drop]; done) | (simp only [List.length_cons, List.length_drop]; omega))) (by omega) (r_2) (by omega)
                            ·
                              have n115 : k = 3 := (g_eqN (a := k) (b := 3) (hx := Ey) (hy := rfl) (by omega) (by omega)).mp c115
                              refine G_iload C 120 dX11_feed_118 rfl rfl ?_
                              refine G_goto C 125 dX11_feed_120 rfl ?_
                              refine G_iast (n := 160) C 126 (by decide) (fun σ => eMk (by decide) _ _ σ) ((tn0 + k)) Sx79 (by omega) (by decide) (Nat.le_refl _) dX11_feed_125 rfl (fun s125 es125 => ?_)
                              have r_1 : True := trivial
                              refine G_aload_n (i := 0) C 127 dX11_feed_126 rfl rfl rfl ?_
                              refine G_dup C 128 dX11_feed_127 rfl rfl ?_
                              refine X11_67g C 131 dX11_feed_128 rfl (fun x128 ex128 => ?_)
                              refine G_iconst (v := 1) C 132 dX11_feed_131 rfl rfl ?_
                              refine G_iadd C 133 dX11_feed_132 rfl (fun x132 ex132 => ?_)
                              refine X11_67p C 136 dX11_feed_133 rfl (fun s133 es133 => ?_)
                              have r_2 : Rm TX nT n l P (s_feedN B a1 a2 a3 a4 a5 (k + 1)) s133 := by
                                      have hp : s_pick k a1 a2 a3 a4 a5 = a4 := by unfold s_pick; rw [if_neg n84, if_neg n94, if_neg n104, if_pos n115]
                                      rw [s_feedN, hp]
                                      refine Rm_add rl68 (s_feed01 B a1 a2 a3 a4 a5 etn0 k) (by omega) (by obtain ⟨z, hz, ez⟩ := x_inR (b := 255) k36 rfl (by decide); exact ⟨z, by omega, ez⟩) ?_
                                      rw [es133, ex132, ex128, es125, g_up_n (by decide)]
                              refine G_iinc (w := 1) C 139 dX11_feed_136 rfl rfl rfl rfl (fun x136 ex136 => ?_)
                              have Nx136 : x136 = nI (k + 1) := g_addN ex136 Ey rfl
                              show GW SM E _ 139 [some (.ref (e_ad E 0)), some (.int m), some (.int a1), some (.int a2), some (.int a3), some (.int a4), some (.int a5), some (.int x136)] [] s133
                              refine G_goto C 68 dX11_feed_139 rfl ?_
                              exact ih68 (k + 1) x136 s133 (g_cn (a := (k + 1)) Nx136 (by first | rfl | omega | (simp only [List.length_cons, List.length_drop]; done) | (simp only [List.length_cons, List.length_drop]; omega))) (by omega) (r_2) (by omega)
                          ·
                            have n104 : k = 2 := (g_eqN (a := k) (b := 2) (hx := Ey) (hy := rfl) (by omega) (by omega)).mp c104
                            refine G_iload C 109 dX11_feed_107 rfl rfl ?_
                            refine G_goto C 125 dX11_feed_109 rfl ?_
                            refine G_iast (n := 160) C 126 (by decide) (fun σ => eMk (by decide) _ _ σ) ((tn0 + k)) Sx79 (by omega) (by decide) (Nat.le_refl _) dX11_feed_125 rfl (fun s125 es125 => ?_)
                            have r_1 : True := trivial
                            refine G_aload_n (i := 0) C 127 dX11_feed_126 rfl rfl rfl ?_
                            refine G_dup C 128 dX11_feed_127 rfl rfl ?_
                            refine X11_67g C 131 dX11_feed_128 rfl (fun x128 ex128 => ?_)
                            refine G_iconst (v := 1) C 132 dX11_feed_131 rfl rfl ?_
                            refine G_iadd C 133 dX11_feed_132 rfl (fun x132 ex132 => ?_)
                            refine X11_67p C 136 dX11_feed_133 rfl (fun s133 es133 => ?_)
                            have r_2 : Rm TX nT n l P (s_feedN B a1 a2 a3 a4 a5 (k + 1)) s133 := by
                                    have hp : s_pick k a1 a2 a3 a4 a5 = a3 := by unfold s_pick; rw [if_neg n84, if_neg n94, if_pos n104]
                                    rw [s_feedN, hp]
                                    refine Rm_add rl68 (s_feed01 B a1 a2 a3 a4 a5 etn0 k) (by omega) (by obtain ⟨z, hz, ez⟩ := x_inR (b := 255) k28 rfl (by decide); exact ⟨z, by omega, ez⟩) ?_
                                    rw [es133, ex132, ex128, es125, g_up_n (by decide)]
                            refine G_iinc (w := 1) C 139 dX11_feed_136 rfl rfl rfl rfl (fun x136 ex136 => ?_)
                            have Nx136 : x136 = nI (k + 1) := g_addN ex136 Ey rfl
                            show GW SM E _ 139 [some (.ref (e_ad E 0)), some (.int m), some (.int a1), some (.int a2), some (.int a3), some (.int a4), some (.int a5), some (.int x136)] [] s133
                            refine G_goto C 68 dX11_feed_139 rfl ?_
                            exact ih68 (k + 1) x136 s133 (g_cn (a := (k + 1)) Nx136 (by first | rfl | omega | (simp only [List.length_cons, List.length_drop]; done) | (simp only [List.length_cons, List.length_drop]; omega))) (by omega) (r_2) (by omega)
                        ·
                          have n94 : k = 1 := (g_eqN (a := k) (b := 1) (hx := Ey) (hy := rfl) (by omega) (by omega)).mp c94
                          refine G_iload_n (i := 3) C 98 dX11_feed_97 rfl rfl rfl ?_
                          refine G_goto C 125 dX11_feed_98 rfl ?_
                          refine G_iast (n := 160) C 126 (by decide) (fun σ => eMk (by decide) _ _ σ) ((tn0 + k)) Sx79 (by omega) (by decide) (Nat.le_refl _) dX11_feed_125 rfl (fun s125 es125 => ?_)
                          have r_1 : True := trivial
                          refine G_aload_n (i := 0) C 127 dX11_feed_126 rfl rfl rfl ?_
                          refine G_dup C 128 dX11_feed_127 rfl rfl ?_
                          refine X11_67g C 131 dX11_feed_128 rfl (fun x128 ex128 => ?_)
                          refine G_iconst (v := 1) C 132 dX11_feed_131 rfl rfl ?_
                          refine G_iadd C 133 dX11_feed_132 rfl (fun x132 ex132 => ?_)
                          refine X11_67p C 136 dX11_feed_133 rfl (fun s133 es133 => ?_)
                          have r_2 : Rm TX nT n l P (s_feedN B a1 a2 a3 a4 a5 (k + 1)) s133 := by
                                  have hp : s_pick k a1 a2 a3 a4 a5 = a2 := by unfold s_pick; rw [if_neg n84, if_pos n94]
                                  rw [s_feedN, hp]
                                  refine Rm_add rl68 (s_feed01 B a1 a2 a3 a4 a5 etn0 k) (by omega) (by obtain ⟨z, hz, ez⟩ := x_inR (b := 255) k20 rfl (by decide); exact ⟨z, by omega, ez⟩) ?_
                                  rw [es133, ex132, ex128, es125, g_up_n (by decide)]
                          refine G_iinc (w := 1) C 139 dX11_feed_136 rfl rfl rfl rfl (fun x136 ex136 => ?_)
                          have Nx136 : x136 = nI (k + 1) := g_addN ex136 Ey rfl
                          show GW SM E _ 139 [some (.ref (e_ad E 0)), some (.int m), some (.int a1), some (.int a2), some (.int a3), some (.int a4), some (.int a5), some (.int x136)] [] s133
                          refine G_goto C 68 dX11_feed_139 rfl ?_
                          exact ih68 (k + 1) x136 s133 (g_cn (a := (k + 1)) Nx136 (by first | rfl | omega | (simp only [List.length_cons, List.length_drop]; done) | (simp only [List.length_cons, List.length_drop]; omega))) (by omega) (r_2) (by omega)
                      ·
                        have n84 : k = 0 := (g_eqN (a := k) (b := 0) (hx := Ey) (hy := rfl) (by omega) (by omega)).mp c84
                        refine G_iload_n (i := 2) C 88 dX11_feed_87 rfl rfl rfl ?_
                        refine G_goto C 125 dX11_feed_88 rfl ?_
                        refine G_iast (n := 160) C 126 (by decide) (fun σ => eMk (by decide) _ _ σ) ((tn0 + k)) Sx79 (by omega) (by decide) (Nat.le_refl _) dX11_feed_125 rfl (fun s125 es125 => ?_)
                        have r_1 : True := trivial
                        refine G_aload_n (i := 0) C 127 dX11_feed_126 rfl rfl rfl ?_
                        refine G_dup C 128 dX11_feed_127 rfl rfl ?_
                        refine X11_67g C 131 dX11_feed_128 rfl (fun x128 ex128 => ?_)
                        refine G_iconst (v := 1) C 132 dX11_feed_131 rfl rfl ?_
                        refine G_iadd C 133 dX11_feed_132 rfl (fun x132 ex132 => ?_)
                        refine X11_67p C 136 dX11_feed_133 rfl (fun s133 es133 => ?_)
                        have r_2 : Rm TX nT n l P (s_feedN B a1 a2 a3 a4 a5 (k + 1)) s133 := by
                                have hp : s_pick k a1 a2 a3 a4 a5 = a1 := by unfold s_pick; rw [if_pos n84]
                                rw [s_feedN, hp]
                                refine Rm_add rl68 (s_feed01 B a1 a2 a3 a4 a5 etn0 k) (by omega) (by obtain ⟨z, hz, ez⟩ := x_inR (b := 255) k13 rfl (by decide); exact ⟨z, by omega, ez⟩) ?_
                                rw [es133, ex132, ex128, es125, g_up_n (by decide)]
                        refine G_iinc (w := 1) C 139 dX11_feed_136 rfl rfl rfl rfl (fun x136 ex136 => ?_)
                        have Nx136 : x136 = nI (k + 1) := g_addN ex136 Ey rfl
                        show GW SM E _ 139 [some (.ref (e_ad E 0)), some (.int m), some (.int a1), some (.int a2), some (.int a3), some (.int a4), some (.int a5), some (.int x136)] [] s133
                        refine G_goto C 68 dX11_feed_139 rfl ?_
                        exact ih68 (k + 1) x136 s133 (g_cn (a := (k + 1)) Nx136 (by first | rfl | omega | (simp only [List.length_cons, List.length_drop]; done) | (simp only [List.length_cons, List.length_drop]; omega))) (by omega) (r_2) (by omega)
                exact L68 (um + 1) 0 0 s (g_cn (a := 0) rfl (by first | rfl | omega)) (by omega) (r) (by omega)
              ·
                have n59 : 160 < (tn0 + um) := (g_ltN (a := 160) (b := (tn0 + um)) (hx := rfl) (hy := Nx55) (by omega) (by omega)).mp c59
                refine G_bipush (v := (-4)) C 64 dX11_feed_62 rfl rfl ?_
                exact G_iret C dX11_feed_64 (⟨by unfold s_feedB s_feedOk; rw [if_neg k6, if_neg k13, if_neg k20, if_neg k28, if_neg k36, if_neg k44, ← Sx51, ← ex55, if_pos c59]; exact ⟨nT, n, l, hR⟩, by unfold s_feedR s_feedOk; rw [if_neg k6, if_neg k13, if_neg k20, if_neg k28, if_neg k36, if_neg k44, ← Sx51, ← ex55, if_pos c59]⟩)
            ·
              have k44 := h41.symm.trans c44
              refine G_bipush (v := (-2)) C 49 dX11_feed_47 rfl rfl ?_
              exact G_iret C dX11_feed_49 (⟨by unfold s_feedB s_feedOk; rw [if_neg k6, if_neg k13, if_neg k20, if_neg k28, if_neg k36, if_pos k44]; exact ⟨nT, n, l, hR⟩, by unfold s_feedR s_feedOk; rw [if_neg k6, if_neg k13, if_neg k20, if_neg k28, if_neg k36, if_pos k44]⟩)
theorem dX11_force_0 : decode cX11_force 0 = .ok (.iload_n 1, 1) := by decide +kernel
theorem dX11_force_1 : decode cX11_force 1 = .ok (.iconst 0, 1) := by decide +kernel
theorem dX11_force_2 : decode cX11_force 2 = .ok (.aload_n 0, 1) := by decide +kernel
theorem dX11_force_3 : decode cX11_force 3 = .ok (.getfield 86, 3) := by decide +kernel
theorem dX11_force_6 : decode cX11_force 6 = .ok (.iconst 1, 1) := by decide +kernel
theorem dX11_force_7 : decode cX11_force 7 = .ok (.isub, 1) := by decide +kernel
theorem dX11_force_8 : decode cX11_force 8 = .ok (.invokestatic 78, 3) := by decide +kernel
theorem dX11_force_11 : decode cX11_force 11 = .ok (.ifCond .ne 6, 3) := by decide +kernel
theorem dX11_force_14 : decode cX11_force 14 = .ok (.bipush (-2), 2) := by decide +kernel
theorem dX11_force_16 : decode cX11_force 16 = .ok (.ireturn, 1) := by decide +kernel
theorem dX11_force_17 : decode cX11_force 17 = .ok (.aload_n 0, 1) := by decide +kernel
theorem dX11_force_18 : decode cX11_force 18 = .ok (.getfield 89, 3) := by decide +kernel
theorem dX11_force_21 : decode cX11_force 21 = .ok (.istore_n 2, 1) := by decide +kernel
theorem dX11_force_22 : decode cX11_force 22 = .ok (.aload_n 0, 1) := by decide +kernel
theorem dX11_force_23 : decode cX11_force 23 = .ok (.iload_n 1, 1) := by decide +kernel
theorem dX11_force_24 : decode cX11_force 24 = .ok (.putfield 89, 3) := by decide +kernel
theorem dX11_force_27 : decode cX11_force 27 = .ok (.iload_n 2, 1) := by decide +kernel
theorem dX11_force_28 : decode cX11_force 28 = .ok (.ireturn, 1) := by decide +kernel
set_option maxHeartbeats 4000000 in
set_option maxRecDepth 100000 in
theorem c_X11_force (d : Nat) (TX : gTX) (P B s : gS) (hR0 : RM TX P B s) (t : Int32) : gMt SM yX11_force cX11_force 3 (some .int) (d + 2) (fun ad => [.ref (ad 0), .int t]) s (gQi SM (fun r s' => RM TX (s_foP P B t) B s' ∧ r = s_foR P B t)) := by
  obtain ⟨nT, n, l, hR⟩ := hR0
  have hI := hR.1
  have hn6 : n ≤ 6 := hI.2.1.2.1
  have hl6 : l < 6 := mI_l6 hI
  have hxn : x_n P = n := x_nOf hI.2.1.1 hn6
  have hbI := hR.2.2
  have hnT6 : nT ≤ 6 := hI.2.1.2.2.2.2.1
  obtain ⟨tn0, htn0, etn0⟩ := hbI.2.1
  refine gMt_of SM_ok (by decide +kernel) (fun ad => [some (.ref (ad 0)), some (.int t), none]) (fun _ => rfl) (fun _ => rfl) (fun _ => Nat.le_of_ble_eq_true rfl) (fun E C0 => ?_)
  have C : gCx SM E RX11 cX11_force 3 (some .int) (d + 2) := C0
  have fn : Qn s s := Qn.rf
  have i : mI TX nT n l P s := hI
  refine G_iload_n (i := 1) C 1 dX11_force_0 rfl rfl rfl ?_
  refine G_iconst (v := 0) C 2 dX11_force_1 rfl rfl ?_
  refine G_aload_n (i := 0) C 3 dX11_force_2 rfl rfl rfl ?_
  refine X11_86g C 6 dX11_force_3 rfl (fun x3 ex3 => ?_)
  have Sx3 : x3 = nI nT := ex3.trans ((congrFun (congrFun hR.2.1 0) 0).trans hbI.1)
  refine G_iconst (v := 1) C 7 dX11_force_6 rfl rfl ?_
  refine G_isub C 8 dX11_force_7 rfl (fun x7 ex7 => ?_)
  refine G_calli 11 (G_runS C Kc_X11_in KS_X11_78 (by omega) (c_X11_in 0 t 0 x7 s) rfl rfl (Nat.le_of_ble_eq_true rfl) rfl dX11_force_8) rfl (fun x8 s8 h8 => ?_)
  obtain ⟨es8, h8⟩ := h8
  have es8 := es8.symm
  subst es8
  refine G_if_ne C 17 14 dX11_force_11 rfl rfl (fun c11 => ?_) (fun c11 => ?_)
  ·
    have k11 := g_neT h8 c11
    have kz : ¬ x_one t nT = 0 := by rw [← y_one hnT6, ← Sx3, ← ex7]; exact k11
    obtain ⟨ut, hut, eut⟩ := x_oneT hnT6 kz
    have hz : ¬ x_in t 0 (B 0 0 - 1) = 0 := by rw [hbI.1, ← Sx3, ← ex7]; exact k11
    refine G_aload_n (i := 0) C 18 dX11_force_17 rfl rfl rfl ?_
    refine X11_89g C 21 dX11_force_18 rfl (fun x18 ex18 => ?_)
    have Sx18 : x18 = nI l := ex18.trans (mI_l i)
    refine G_istore_n (i := 2) (L' := [some (.ref (e_ad E 0)), some (.int t), some (.int x18)]) C 22 dX11_force_21 rfl rfl (Nat.le_of_ble_eq_true rfl) rfl rfl ?_
    refine G_aload_n (i := 0) C 23 dX11_force_22 rfl rfl rfl ?_
    refine G_iload_n (i := 1) C 24 dX11_force_23 rfl rfl rfl ?_
    refine X11_89p C 27 dX11_force_24 rfl (fun s24 es24 => ?_)
    have fn_1 : Qn s s24 := Qn.tr fn (Qn.up0 es24 (by decide))
    refine G_iload_n (i := 2) C 28 dX11_force_27 rfl rfl rfl ?_
    exact G_iret C dX11_force_28 (⟨by unfold s_foP; rw [if_neg hz]; exact RM_up hR (mI_lawU hI es24 eut hut) fn_1 rfl rfl (eI_of hbI.2.2.2.2.2.1 rfl), by unfold s_foR; rw [if_neg hz, Sx18]; exact hI.2.1.2.2.1.symm⟩)
  ·
    have k11 := h8.symm.trans c11
    have hz : x_in t 0 (B 0 0 - 1) = 0 := by rw [hbI.1, ← Sx3, ← ex7]; exact k11
    refine G_bipush (v := (-2)) C 16 dX11_force_14 rfl rfl ?_
    exact G_iret C dX11_force_16 (⟨by unfold s_foP; rw [if_pos hz]; exact ⟨nT, n, l, hR⟩, by unfold s_foR; rw [if_pos hz]⟩)
theorem dX11_asks_0 : decode cX11_asks 0 = .ok (.iload_n 1, 1) := by decide +kernel
theorem dX11_asks_1 : decode cX11_asks 1 = .ok (.iconst 0, 1) := by decide +kernel
theorem dX11_asks_2 : decode cX11_asks 2 = .ok (.iconst 2, 1) := by decide +kernel
theorem dX11_asks_3 : decode cX11_asks 3 = .ok (.invokestatic 78, 3) := by decide +kernel
theorem dX11_asks_6 : decode cX11_asks 6 = .ok (.ifCond .eq 31, 3) := by decide +kernel
theorem dX11_asks_9 : decode cX11_asks 9 = .ok (.aload_n 0, 1) := by decide +kernel
theorem dX11_asks_10 : decode cX11_asks 10 = .ok (.iload_n 2, 1) := by decide +kernel
theorem dX11_asks_11 : decode cX11_asks 11 = .ok (.invokevirtual 164, 3) := by decide +kernel
theorem dX11_asks_14 : decode cX11_asks 14 = .ok (.ifCond .eq 23, 3) := by decide +kernel
theorem dX11_asks_17 : decode cX11_asks 17 = .ok (.iload_n 3, 1) := by decide +kernel
theorem dX11_asks_18 : decode cX11_asks 18 = .ok (.iconst (-1), 1) := by decide +kernel
theorem dX11_asks_19 : decode cX11_asks 19 = .ok (.bipush 9, 2) := by decide +kernel
theorem dX11_asks_21 : decode cX11_asks 21 = .ok (.invokestatic 78, 3) := by decide +kernel
theorem dX11_asks_24 : decode cX11_asks 24 = .ok (.ifCond .eq 13, 3) := by decide +kernel
theorem dX11_asks_27 : decode cX11_asks 27 = .ok (.aload_n 0, 1) := by decide +kernel
theorem dX11_asks_28 : decode cX11_asks 28 = .ok (.iload_n 1, 1) := by decide +kernel
theorem dX11_asks_29 : decode cX11_asks 29 = .ok (.iload_n 2, 1) := by decide +kernel
theorem dX11_asks_30 : decode cX11_asks 30 = .ok (.iload_n 3, 1) := by decide +kernel
theorem dX11_asks_31 : decode cX11_asks 31 = .ok (.invokevirtual 167, 3) := by decide +kernel
theorem dX11_asks_34 : decode cX11_asks 34 = .ok (.goto 6, 3) := by decide +kernel
theorem dX11_asks_37 : decode cX11_asks 37 = .ok (.sipush (-1000), 3) := by decide +kernel
theorem dX11_asks_40 : decode cX11_asks 40 = .ok (.ireturn, 1) := by decide +kernel
set_option maxHeartbeats 4000000 in
set_option maxRecDepth 100000 in
theorem c_X11_asks (d : Nat) (TX : gTX) (P B s : gS) (hR0 : RM TX P B s) (q p t : Int32) : gMt SM yX11_asks cX11_asks 4 (some .int) (d + 5) (fun ad => [.ref (ad 0), .int q, .int p, .int t]) s (gQi SM (fun r s' => RM TX P B s' ∧ r = s_asks TX P q p t)) := by
  obtain ⟨nT, n, l, hR⟩ := hR0
  have hI := hR.1
  have hn6 : n ≤ 6 := hI.2.1.2.1
  have hl6 : l < 6 := mI_l6 hI
  have hxn : x_n P = n := x_nOf hI.2.1.1 hn6
  have hbI := hR.2.2
  have hnT6 : nT ≤ 6 := hI.2.1.2.2.2.2.1
  obtain ⟨tn0, htn0, etn0⟩ := hbI.2.1
  refine gMt_of SM_ok (by decide +kernel) (fun ad => [some (.ref (ad 0)), some (.int q), some (.int p), some (.int t)]) (fun _ => rfl) (fun _ => rfl) (fun _ => Nat.le_of_ble_eq_true rfl) (fun E C0 => ?_)
  have C : gCx SM E RX11 cX11_asks 4 (some .int) (d + 5) := C0
  have fn : Qn s s := Qn.rf
  have i : mI TX nT n l P s := hI
  refine G_iload_n (i := 1) C 1 dX11_asks_0 rfl rfl rfl ?_
  refine G_iconst (v := 0) C 2 dX11_asks_1 rfl rfl ?_
  refine G_iconst (v := 2) C 3 dX11_asks_2 rfl rfl ?_
  refine G_calli 6 (G_runS C Kc_X11_in KS_X11_78 (by omega) (c_X11_in 0 q 0 2 s) rfl rfl (Nat.le_of_ble_eq_true rfl) rfl dX11_asks_3) rfl (fun x3 s3 h3 => ?_)
  obtain ⟨es3, h3⟩ := h3
  have es3 := es3.symm
  subst es3
  refine G_if_eq C 37 9 dX11_asks_6 rfl rfl (fun c6 => ?_) (fun c6 => ?_)
  ·
    have k6 := h3.symm.trans c6
    refine G_sipush (v := (-1000)) C 40 dX11_asks_37 rfl rfl ?_
    exact G_iret C dX11_asks_40 (⟨⟨nT, n, l, hR⟩, by unfold s_asks; rw [if_pos k6]⟩)
  ·
    have k6 := g_neT h3 c6
    obtain ⟨uq, huq, euq⟩ := x_inR (b := 2) k6 rfl (by decide)
    have cuq : q.toNatClampNeg = uq := by rw [euq, nI_clamp (by omega)]
    refine G_aload_n (i := 0) C 10 dX11_asks_9 rfl rfl rfl ?_
    refine G_iload_n (i := 2) C 11 dX11_asks_10 rfl rfl rfl ?_
    refine G_calli 14 (G_runV C Kc_X11_isOne KV_X11_164 (by omega) (by decide) (eM _ _ _) rfl (c_X11_isOne 0 n hn6 s (mI_n i) p) rfl rfl rfl (Nat.le_of_ble_eq_true rfl) rfl dX11_asks_11) rfl (fun x11 s11 h11 => ?_)
    obtain ⟨es11, h11⟩ := h11
    have es11 := es11.symm
    subst es11
    refine G_if_eq C 37 17 dX11_asks_14 rfl rfl (fun c14 => ?_) (fun c14 => ?_)
    ·
      have k14 := h11.symm.trans c14
      refine G_sipush (v := (-1000)) C 40 dX11_asks_37 rfl rfl ?_
      exact G_iret C dX11_asks_40 (⟨⟨nT, n, l, hR⟩, by unfold s_asks; rw [if_neg k6, hxn, if_pos k14]⟩)
    ·
      have k14 := g_neT h11 c14
      obtain ⟨up, hup, eup⟩ := x_oneT hn6 k14
      have cup : p.toNatClampNeg = up := by rw [eup, nI_clamp (by omega)]
      refine G_iload_n (i := 3) C 18 dX11_asks_17 rfl rfl rfl ?_
      refine G_iconst (v := (-1)) C 19 dX11_asks_18 rfl rfl ?_
      refine G_bipush (v := 9) C 21 dX11_asks_19 rfl rfl ?_
      refine G_calli 24 (G_runS C Kc_X11_in KS_X11_78 (by omega) (c_X11_in 0 t (-1) 9 s) rfl rfl (Nat.le_of_ble_eq_true rfl) rfl dX11_asks_21) rfl (fun x21 s21 h21 => ?_)
      obtain ⟨es21, h21⟩ := h21
      have es21 := es21.symm
      subst es21
      refine G_if_eq C 37 27 dX11_asks_24 rfl rfl (fun c24 => ?_) (fun c24 => ?_)
      ·
        have k24 := h21.symm.trans c24
        refine G_sipush (v := (-1000)) C 40 dX11_asks_37 rfl rfl ?_
        exact G_iret C dX11_asks_40 (⟨⟨nT, n, l, hR⟩, by unfold s_asks; rw [if_neg k6, hxn, if_neg k14, if_pos k24]⟩)
      ·
        have k24 := g_neT h21 c24
        have hbd : (t = -1 ∧ (if t = -1 then 0 else P 1 t.toNatClampNeg) = 0) ∨ ∃ tt, tt < 10 ∧ t = nI tt ∧ (if t = -1 then 0 else P 1 t.toNatClampNeg) = P 1 tt := by
          by_cases h : t = -1
          · exact Or.inl ⟨h, if_pos h⟩
          · obtain ⟨ut, hut, eut⟩ := (x_inRm (b := 9) k24 rfl (by decide)).resolve_left h
            exact Or.inr ⟨ut, by omega, eut, by rw [if_neg h, eut, nI_clamp (by omega)]⟩
        refine G_aload_n (i := 0) C 28 dX11_asks_27 rfl rfl rfl ?_
        refine G_iload_n (i := 1) C 29 dX11_asks_28 rfl rfl rfl ?_
        refine G_iload_n (i := 2) C 30 dX11_asks_29 rfl rfl rfl ?_
        refine G_iload_n (i := 3) C 31 dX11_asks_30 rfl rfl rfl ?_
        refine G_calli 34 (G_runV C Kc_X11_asksOf KV_X11_167 (by omega) (by decide) (eM _ _ _) rfl (c_X11_asksOf 0 TX nT n l P s i q uq euq (by omega) p up eup (by omega) t (if t = -1 then 0 else P 1 t.toNatClampNeg) hbd) rfl rfl rfl (Nat.le_of_ble_eq_true rfl) rfl dX11_asks_31) rfl (fun x31 s31 h31 => ?_)
        have fn_1 : Qn s s31 := Qn.tr fn (h31.1.MR)
        have i_1 : mI TX nT n l P s31 := mI_fr i (h31.1)
        refine G_goto C 40 dX11_asks_34 rfl ?_
        exact G_iret C dX11_asks_40 (⟨RM_i hR i_1 fn_1, h31.2.trans (by unfold s_asks; rw [if_neg k6, hxn, if_neg k14, if_neg k24, cuq, cup])⟩)
theorem dX11_citizen_0 : decode cX11_citizen 0 = .ok (.iload_n 1, 1) := by decide +kernel
theorem dX11_citizen_1 : decode cX11_citizen 1 = .ok (.iconst 0, 1) := by decide +kernel
theorem dX11_citizen_2 : decode cX11_citizen 2 = .ok (.bipush 59, 2) := by decide +kernel
theorem dX11_citizen_4 : decode cX11_citizen 4 = .ok (.invokestatic 78, 3) := by decide +kernel
theorem dX11_citizen_7 : decode cX11_citizen 7 = .ok (.ifCond .eq 21, 3) := by decide +kernel
theorem dX11_citizen_10 : decode cX11_citizen 10 = .ok (.iload_n 2, 1) := by decide +kernel
theorem dX11_citizen_11 : decode cX11_citizen 11 = .ok (.invokestatic 170, 3) := by decide +kernel
theorem dX11_citizen_14 : decode cX11_citizen 14 = .ok (.ifCond .eq 14, 3) := by decide +kernel
theorem dX11_citizen_17 : decode cX11_citizen 17 = .ok (.iload_n 3, 1) := by decide +kernel
theorem dX11_citizen_18 : decode cX11_citizen 18 = .ok (.iconst 0, 1) := by decide +kernel
theorem dX11_citizen_19 : decode cX11_citizen 19 = .ok (.sipush 1023, 3) := by decide +kernel
theorem dX11_citizen_22 : decode cX11_citizen 22 = .ok (.invokestatic 78, 3) := by decide +kernel
theorem dX11_citizen_25 : decode cX11_citizen 25 = .ok (.ifCond .ne 6, 3) := by decide +kernel
theorem dX11_citizen_28 : decode cX11_citizen 28 = .ok (.bipush (-2), 2) := by decide +kernel
theorem dX11_citizen_30 : decode cX11_citizen 30 = .ok (.ireturn, 1) := by decide +kernel
theorem dX11_citizen_31 : decode cX11_citizen 31 = .ok (.aload_n 0, 1) := by decide +kernel
theorem dX11_citizen_32 : decode cX11_citizen 32 = .ok (.getfield 75, 3) := by decide +kernel
theorem dX11_citizen_35 : decode cX11_citizen 35 = .ok (.bipush 6, 2) := by decide +kernel
theorem dX11_citizen_37 : decode cX11_citizen 37 = .ok (.if_icmp .ne 6, 3) := by decide +kernel
theorem dX11_citizen_40 : decode cX11_citizen 40 = .ok (.bipush (-4), 2) := by decide +kernel
theorem dX11_citizen_42 : decode cX11_citizen 42 = .ok (.ireturn, 1) := by decide +kernel
theorem dX11_citizen_43 : decode cX11_citizen 43 = .ok (.aload_n 0, 1) := by decide +kernel
theorem dX11_citizen_44 : decode cX11_citizen 44 = .ok (.getfield 7, 3) := by decide +kernel
theorem dX11_citizen_47 : decode cX11_citizen 47 = .ok (.aload_n 0, 1) := by decide +kernel
theorem dX11_citizen_48 : decode cX11_citizen 48 = .ok (.getfield 75, 3) := by decide +kernel
theorem dX11_citizen_51 : decode cX11_citizen 51 = .ok (.iload_n 1, 1) := by decide +kernel
theorem dX11_citizen_52 : decode cX11_citizen 52 = .ok (.bipush 10, 2) := by decide +kernel
theorem dX11_citizen_54 : decode cX11_citizen 54 = .ok (.idiv, 1) := by decide +kernel
theorem dX11_citizen_55 : decode cX11_citizen 55 = .ok (.iastore, 1) := by decide +kernel
theorem dX11_citizen_56 : decode cX11_citizen 56 = .ok (.aload_n 0, 1) := by decide +kernel
theorem dX11_citizen_57 : decode cX11_citizen 57 = .ok (.getfield 13, 3) := by decide +kernel
theorem dX11_citizen_60 : decode cX11_citizen 60 = .ok (.aload_n 0, 1) := by decide +kernel
theorem dX11_citizen_61 : decode cX11_citizen 61 = .ok (.getfield 75, 3) := by decide +kernel
theorem dX11_citizen_64 : decode cX11_citizen 64 = .ok (.iload_n 1, 1) := by decide +kernel
theorem dX11_citizen_65 : decode cX11_citizen 65 = .ok (.bipush 10, 2) := by decide +kernel
theorem dX11_citizen_67 : decode cX11_citizen 67 = .ok (.irem, 1) := by decide +kernel
theorem dX11_citizen_68 : decode cX11_citizen 68 = .ok (.iastore, 1) := by decide +kernel
theorem dX11_citizen_69 : decode cX11_citizen 69 = .ok (.aload_n 0, 1) := by decide +kernel
theorem dX11_citizen_70 : decode cX11_citizen 70 = .ok (.getfield 16, 3) := by decide +kernel
theorem dX11_citizen_73 : decode cX11_citizen 73 = .ok (.iconst 4, 1) := by decide +kernel
theorem dX11_citizen_74 : decode cX11_citizen 74 = .ok (.aload_n 0, 1) := by decide +kernel
theorem dX11_citizen_75 : decode cX11_citizen 75 = .ok (.getfield 75, 3) := by decide +kernel
theorem dX11_citizen_78 : decode cX11_citizen 78 = .ok (.imul, 1) := by decide +kernel
theorem dX11_citizen_79 : decode cX11_citizen 79 = .ok (.iload_n 2, 1) := by decide +kernel
theorem dX11_citizen_80 : decode cX11_citizen 80 = .ok (.iastore, 1) := by decide +kernel
theorem dX11_citizen_81 : decode cX11_citizen 81 = .ok (.aload_n 0, 1) := by decide +kernel
theorem dX11_citizen_82 : decode cX11_citizen 82 = .ok (.getfield 16, 3) := by decide +kernel
theorem dX11_citizen_85 : decode cX11_citizen 85 = .ok (.iconst 4, 1) := by decide +kernel
theorem dX11_citizen_86 : decode cX11_citizen 86 = .ok (.aload_n 0, 1) := by decide +kernel
theorem dX11_citizen_87 : decode cX11_citizen 87 = .ok (.getfield 75, 3) := by decide +kernel
theorem dX11_citizen_90 : decode cX11_citizen 90 = .ok (.imul, 1) := by decide +kernel
theorem dX11_citizen_91 : decode cX11_citizen 91 = .ok (.iconst 1, 1) := by decide +kernel
theorem dX11_citizen_92 : decode cX11_citizen 92 = .ok (.iadd, 1) := by decide +kernel
theorem dX11_citizen_93 : decode cX11_citizen 93 = .ok (.iload_n 3, 1) := by decide +kernel
theorem dX11_citizen_94 : decode cX11_citizen 94 = .ok (.iastore, 1) := by decide +kernel
theorem dX11_citizen_95 : decode cX11_citizen 95 = .ok (.aload_n 0, 1) := by decide +kernel
theorem dX11_citizen_96 : decode cX11_citizen 96 = .ok (.getfield 16, 3) := by decide +kernel
theorem dX11_citizen_99 : decode cX11_citizen 99 = .ok (.iconst 4, 1) := by decide +kernel
theorem dX11_citizen_100 : decode cX11_citizen 100 = .ok (.aload_n 0, 1) := by decide +kernel
theorem dX11_citizen_101 : decode cX11_citizen 101 = .ok (.getfield 75, 3) := by decide +kernel
theorem dX11_citizen_104 : decode cX11_citizen 104 = .ok (.imul, 1) := by decide +kernel
theorem dX11_citizen_105 : decode cX11_citizen 105 = .ok (.iconst 2, 1) := by decide +kernel
theorem dX11_citizen_106 : decode cX11_citizen 106 = .ok (.iadd, 1) := by decide +kernel
theorem dX11_citizen_107 : decode cX11_citizen 107 = .ok (.iconst 0, 1) := by decide +kernel
theorem dX11_citizen_108 : decode cX11_citizen 108 = .ok (.iastore, 1) := by decide +kernel
theorem dX11_citizen_109 : decode cX11_citizen 109 = .ok (.aload_n 0, 1) := by decide +kernel
theorem dX11_citizen_110 : decode cX11_citizen 110 = .ok (.getfield 16, 3) := by decide +kernel
theorem dX11_citizen_113 : decode cX11_citizen 113 = .ok (.iconst 4, 1) := by decide +kernel
theorem dX11_citizen_114 : decode cX11_citizen 114 = .ok (.aload_n 0, 1) := by decide +kernel
theorem dX11_citizen_115 : decode cX11_citizen 115 = .ok (.getfield 75, 3) := by decide +kernel
theorem dX11_citizen_118 : decode cX11_citizen 118 = .ok (.imul, 1) := by decide +kernel
theorem dX11_citizen_119 : decode cX11_citizen 119 = .ok (.iconst 3, 1) := by decide +kernel
theorem dX11_citizen_120 : decode cX11_citizen 120 = .ok (.iadd, 1) := by decide +kernel
theorem dX11_citizen_121 : decode cX11_citizen 121 = .ok (.iconst 1, 1) := by decide +kernel
theorem dX11_citizen_122 : decode cX11_citizen 122 = .ok (.iastore, 1) := by decide +kernel
theorem dX11_citizen_123 : decode cX11_citizen 123 = .ok (.aload_n 0, 1) := by decide +kernel
theorem dX11_citizen_124 : decode cX11_citizen 124 = .ok (.dup, 1) := by decide +kernel
theorem dX11_citizen_125 : decode cX11_citizen 125 = .ok (.getfield 75, 3) := by decide +kernel
theorem dX11_citizen_128 : decode cX11_citizen 128 = .ok (.iconst 1, 1) := by decide +kernel
theorem dX11_citizen_129 : decode cX11_citizen 129 = .ok (.iadd, 1) := by decide +kernel
theorem dX11_citizen_130 : decode cX11_citizen 130 = .ok (.putfield 75, 3) := by decide +kernel
theorem dX11_citizen_133 : decode cX11_citizen 133 = .ok (.aload_n 0, 1) := by decide +kernel
theorem dX11_citizen_134 : decode cX11_citizen 134 = .ok (.getfield 75, 3) := by decide +kernel
theorem dX11_citizen_137 : decode cX11_citizen 137 = .ok (.iconst 1, 1) := by decide +kernel
theorem dX11_citizen_138 : decode cX11_citizen 138 = .ok (.isub, 1) := by decide +kernel
theorem dX11_citizen_139 : decode cX11_citizen 139 = .ok (.ireturn, 1) := by decide +kernel
set_option maxHeartbeats 4000000 in
set_option maxRecDepth 100000 in
theorem c_X11_citizen (d : Nat) (TX : gTX) (P B s : gS) (hR0 : RM TX P B s) (km wh wa : Int32) : gMt SM yX11_citizen cX11_citizen 4 (some .int) (d + 3) (fun ad => [.ref (ad 0), .int km, .int wh, .int wa]) s (gQi SM (fun r s' => RM TX (s_ctP P km wh wa) B s' ∧ r = s_ctR P km wh wa)) := by
  obtain ⟨nT, n, l, hR⟩ := hR0
  have hI := hR.1
  have hn6 : n ≤ 6 := hI.2.1.2.1
  have hl6 : l < 6 := mI_l6 hI
  have hxn : x_n P = n := x_nOf hI.2.1.1 hn6
  have hbI := hR.2.2
  have hnT6 : nT ≤ 6 := hI.2.1.2.2.2.2.1
  obtain ⟨tn0, htn0, etn0⟩ := hbI.2.1
  refine gMt_of SM_ok (by decide +kernel) (fun ad => [some (.ref (ad 0)), some (.int km), some (.int wh), some (.int wa)]) (fun _ => rfl) (fun _ => rfl) (fun _ => Nat.le_of_ble_eq_true rfl) (fun E C0 => ?_)
  have C : gCx SM E RX11 cX11_citizen 4 (some .int) (d + 3) := C0
  have fn : Qn s s := Qn.rf
  refine G_iload_n (i := 1) C 1 dX11_citizen_0 rfl rfl rfl ?_
  refine G_iconst (v := 0) C 2 dX11_citizen_1 rfl rfl ?_
  refine G_bipush (v := 59) C 4 dX11_citizen_2 rfl rfl ?_
  refine G_calli 7 (G_runS C Kc_X11_in KS_X11_78 (by omega) (c_X11_in 0 km 0 59 s) rfl rfl (Nat.le_of_ble_eq_true rfl) rfl dX11_citizen_4) rfl (fun x4 s4 h4 => ?_)
  obtain ⟨es4, h4⟩ := h4
  have es4 := es4.symm
  subst es4
  refine G_if_eq C 28 10 dX11_citizen_7 rfl rfl (fun c7 => ?_) (fun c7 => ?_)
  ·
    have k7 := h4.symm.trans c7
    refine G_bipush (v := (-2)) C 30 dX11_citizen_28 rfl rfl ?_
    exact G_iret C dX11_citizen_30 (⟨by unfold s_ctP s_ctOk; rw [if_pos k7, if_pos rfl]; exact ⟨nT, n, l, hR⟩, by unfold s_ctR s_ctOk; rw [if_pos k7, if_pos rfl]⟩)
  ·
    have k7 := g_neT h4 c7
    refine G_iload_n (i := 2) C 11 dX11_citizen_10 rfl rfl rfl ?_
    refine G_calli 14 (G_runS C Kc_X11_isCorner KS_X11_170 (by omega) (c_X11_isCorner 0 wh s) rfl rfl (Nat.le_of_ble_eq_true rfl) rfl dX11_citizen_11) rfl (fun x11 s11 h11 => ?_)
    obtain ⟨es11, h11⟩ := h11
    have es11 := es11.symm
    subst es11
    refine G_if_eq C 28 17 dX11_citizen_14 rfl rfl (fun c14 => ?_) (fun c14 => ?_)
    ·
      have k14 := h11.symm.trans c14
      refine G_bipush (v := (-2)) C 30 dX11_citizen_28 rfl rfl ?_
      exact G_iret C dX11_citizen_30 (⟨by unfold s_ctP s_ctOk; rw [if_neg k7, if_pos k14, if_pos rfl]; exact ⟨nT, n, l, hR⟩, by unfold s_ctR s_ctOk; rw [if_neg k7, if_pos k14, if_pos rfl]⟩)
    ·
      have k14 := g_neT h11 c14
      refine G_iload_n (i := 3) C 18 dX11_citizen_17 rfl rfl rfl ?_
      refine G_iconst (v := 0) C 19 dX11_citizen_18 rfl rfl ?_
      refine G_sipush (v := 1023) C 22 dX11_citizen_19 rfl rfl ?_
      refine G_calli 25 (G_runS C Kc_X11_in KS_X11_78 (by omega) (c_X11_in 0 wa 0 1023 s) rfl rfl (Nat.le_of_ble_eq_true rfl) rfl dX11_citizen_22) rfl (fun x22 s22 h22 => ?_)
      obtain ⟨es22, h22⟩ := h22
      have es22 := es22.symm
      subst es22
      refine G_if_ne C 31 28 dX11_citizen_25 rfl rfl (fun c25 => ?_) (fun c25 => ?_)
      ·
        have k25 := g_neT h22 c25
        refine G_aload_n (i := 0) C 32 dX11_citizen_31 rfl rfl rfl ?_
        refine X11_75g C 35 dX11_citizen_32 rfl (fun x32 ex32 => ?_)
        have Sx32 : x32 = nI n := ex32.trans (mI_n hI)
        refine G_bipush (v := 6) C 37 dX11_citizen_35 rfl rfl ?_
        refine G_icmp_ne C 43 40 dX11_citizen_37 rfl rfl (fun c37 => ?_) (fun c37 => ?_)
        ·
          have n37 : ¬ n = 6 := fun h => c37 ((g_eqN (a := n) (b := 6) (hx := Sx32) (hy := rfl) (by omega) (by omega)).mpr h)
          refine G_aload_n (i := 0) C 44 dX11_citizen_43 rfl rfl rfl ?_
          refine X11_7g C 47 dX11_citizen_44 rfl ?_
          refine G_aload_n (i := 0) C 48 dX11_citizen_47 rfl rfl rfl ?_
          refine X11_75g C 51 dX11_citizen_48 rfl (fun x48 ex48 => ?_)
          have Sx48 : x48 = nI n := ex48.trans (mI_n hI)
          refine G_iload_n (i := 1) C 52 dX11_citizen_51 rfl rfl rfl ?_
          refine G_bipush (v := 10) C 54 dX11_citizen_52 rfl rfl ?_
          refine G_idiv C 55 dX11_citizen_54 rfl (by decide) (fun x54 ex54 => ?_)
          refine G_iast (n := 6) C 56 (by decide) (fun σ => eMk (by decide) _ _ σ) (n) Sx48 (by omega) (by decide) (Nat.le_refl _) dX11_citizen_55 rfl (fun s55 es55 => ?_)
          have fn_1 : Qn s s55 := Qn.tr fn ((Qm.up es55 (by unfold mR; omega)).n)
          refine G_aload_n (i := 0) C 57 dX11_citizen_56 rfl rfl rfl ?_
          refine X11_13g C 60 dX11_citizen_57 rfl ?_
          refine G_aload_n (i := 0) C 61 dX11_citizen_60 rfl rfl rfl ?_
          refine X11_75g C 64 dX11_citizen_61 rfl (fun x61 ex61 => ?_)
          have Sx61 : x61 = nI n := ex61.trans (by rw [es55, g_up_n (by decide)]; exact mI_n hI)
          refine G_iload_n (i := 1) C 65 dX11_citizen_64 rfl rfl rfl ?_
          refine G_bipush (v := 10) C 67 dX11_citizen_65 rfl rfl ?_
          refine G_irem C 68 dX11_citizen_67 rfl (by decide) (fun x67 ex67 => ?_)
          refine G_iast (n := 6) C 69 (by decide) (fun σ => eMk (by decide) _ _ σ) (n) Sx61 (by omega) (by decide) (Nat.le_refl _) dX11_citizen_68 rfl (fun s68 es68 => ?_)
          have fn_2 : Qn s s68 := Qn.tr fn_1 ((Qm.up es68 (by unfold mR; omega)).n)
          refine G_aload_n (i := 0) C 70 dX11_citizen_69 rfl rfl rfl ?_
          refine X11_16g C 73 dX11_citizen_70 rfl ?_
          refine G_iconst (v := 4) C 74 dX11_citizen_73 rfl rfl ?_
          refine G_aload_n (i := 0) C 75 dX11_citizen_74 rfl rfl rfl ?_
          refine X11_75g C 78 dX11_citizen_75 rfl (fun x75 ex75 => ?_)
          have Sx75 : x75 = nI n := ex75.trans (by rw [es68, g_up_n (by decide), es55, g_up_n (by decide)]; exact mI_n hI)
          refine G_imul C 79 dX11_citizen_78 rfl (fun x78 ex78 => ?_)
          have Nx78 : x78 = nI (4 * n) := g_mulN ex78 rfl Sx75
          refine G_iload_n (i := 2) C 80 dX11_citizen_79 rfl rfl rfl ?_
          refine G_iast (n := 24) C 81 (by decide) (fun σ => eMk (by decide) _ _ σ) ((4 * n)) Nx78 (by omega) (by decide) (Nat.le_refl _) dX11_citizen_80 rfl (fun s80 es80 => ?_)
          have fn_3 : Qn s s80 := Qn.tr fn_2 ((Qm.up es80 (by unfold mR; omega)).n)
          refine G_aload_n (i := 0) C 82 dX11_citizen_81 rfl rfl rfl ?_
          refine X11_16g C 85 dX11_citizen_82 rfl ?_
          refine G_iconst (v := 4) C 86 dX11_citizen_85 rfl rfl ?_
          refine G_aload_n (i := 0) C 87 dX11_citizen_86 rfl rfl rfl ?_
          refine X11_75g C 90 dX11_citizen_87 rfl (fun x87 ex87 => ?_)
          have Sx87 : x87 = nI n := ex87.trans (by rw [es80, g_up_n (by decide), es68, g_up_n (by decide), es55, g_up_n (by decide)]; exact mI_n hI)
          refine G_imul C 91 dX11_citizen_90 rfl (fun x90 ex90 => ?_)
          have Nx90 : x90 = nI (4 * n) := g_mulN ex90 rfl Sx87
          refine G_iconst (v := 1) C 92 dX11_citizen_91 rfl rfl ?_
          refine G_iadd C 93 dX11_citizen_92 rfl (fun x92 ex92 => ?_)
          have Nx92 : x92 = nI ((4 * n) + 1) := g_addN ex92 Nx90 rfl
          refine G_iload_n (i := 3) C 94 dX11_citizen_93 rfl rfl rfl ?_
          refine G_iast (n := 24) C 95 (by decide) (fun σ => eMk (by decide) _ _ σ) (((4 * n) + 1)) Nx92 (by omega) (by decide) (Nat.le_refl _) dX11_citizen_94 rfl (fun s94 es94 => ?_)
          have fn_4 : Qn s s94 := Qn.tr fn_3 ((Qm.up es94 (by unfold mR; omega)).n)
          refine G_aload_n (i := 0) C 96 dX11_citizen_95 rfl rfl rfl ?_
          refine X11_16g C 99 dX11_citizen_96 rfl ?_
          refine G_iconst (v := 4) C 100 dX11_citizen_99 rfl rfl ?_
          refine G_aload_n (i := 0) C 101 dX11_citizen_100 rfl rfl rfl ?_
          refine X11_75g C 104 dX11_citizen_101 rfl (fun x101 ex101 => ?_)
          have Sx101 : x101 = nI n := ex101.trans (by rw [es94, g_up_n (by decide), es80, g_up_n (by decide), es68, g_up_n (by decide), es55, g_up_n (by decide)]; exact mI_n hI)
          refine G_imul C 105 dX11_citizen_104 rfl (fun x104 ex104 => ?_)
          have Nx104 : x104 = nI (4 * n) := g_mulN ex104 rfl Sx101
          refine G_iconst (v := 2) C 106 dX11_citizen_105 rfl rfl ?_
          refine G_iadd C 107 dX11_citizen_106 rfl (fun x106 ex106 => ?_)
          have Nx106 : x106 = nI ((4 * n) + 2) := g_addN ex106 Nx104 rfl
          refine G_iconst (v := 0) C 108 dX11_citizen_107 rfl rfl ?_
          refine G_iast (n := 24) C 109 (by decide) (fun σ => eMk (by decide) _ _ σ) (((4 * n) + 2)) Nx106 (by omega) (by decide) (Nat.le_refl _) dX11_citizen_108 rfl (fun s108 es108 => ?_)
          have fn_5 : Qn s s108 := Qn.tr fn_4 ((Qm.up es108 (by unfold mR; omega)).n)
          refine G_aload_n (i := 0) C 110 dX11_citizen_109 rfl rfl rfl ?_
          refine X11_16g C 113 dX11_citizen_110 rfl ?_
          refine G_iconst (v := 4) C 114 dX11_citizen_113 rfl rfl ?_
          refine G_aload_n (i := 0) C 115 dX11_citizen_114 rfl rfl rfl ?_
          refine X11_75g C 118 dX11_citizen_115 rfl (fun x115 ex115 => ?_)
          have Sx115 : x115 = nI n := ex115.trans (by rw [es108, g_up_n (by decide), es94, g_up_n (by decide), es80, g_up_n (by decide), es68, g_up_n (by decide), es55, g_up_n (by decide)]; exact mI_n hI)
          refine G_imul C 119 dX11_citizen_118 rfl (fun x118 ex118 => ?_)
          have Nx118 : x118 = nI (4 * n) := g_mulN ex118 rfl Sx115
          refine G_iconst (v := 3) C 120 dX11_citizen_119 rfl rfl ?_
          refine G_iadd C 121 dX11_citizen_120 rfl (fun x120 ex120 => ?_)
          have Nx120 : x120 = nI ((4 * n) + 3) := g_addN ex120 Nx118 rfl
          refine G_iconst (v := 1) C 122 dX11_citizen_121 rfl rfl ?_
          refine G_iast (n := 24) C 123 (by decide) (fun σ => eMk (by decide) _ _ σ) (((4 * n) + 3)) Nx120 (by omega) (by decide) (Nat.le_refl _) dX11_citizen_122 rfl (fun s122 es122 => ?_)
          have fn_6 : Qn s s122 := Qn.tr fn_5 ((Qm.up es122 (by unfold mR; omega)).n)
          refine G_aload_n (i := 0) C 124 dX11_citizen_123 rfl rfl rfl ?_
          refine G_dup C 125 dX11_citizen_124 rfl rfl ?_
          refine X11_75g C 128 dX11_citizen_125 rfl (fun x125 ex125 => ?_)
          have Sx125 : x125 = nI n := ex125.trans (by rw [es122, g_up_n (by decide), es108, g_up_n (by decide), es94, g_up_n (by decide), es80, g_up_n (by decide), es68, g_up_n (by decide), es55, g_up_n (by decide)]; exact mI_n hI)
          refine G_iconst (v := 1) C 129 dX11_citizen_128 rfl rfl ?_
          refine G_iadd C 130 dX11_citizen_129 rfl (fun x129 ex129 => ?_)
          have Nx129 : x129 = nI (n + 1) := g_addN ex129 Sx125 rfl
          refine X11_75p C 133 dX11_citizen_130 rfl (fun s130 es130 => ?_)
          have fn_7 : Qn s s130 := Qn.tr fn_6 (Qn.up0 es130 (by decide))
          refine G_aload_n (i := 0) C 134 dX11_citizen_133 rfl rfl rfl ?_
          refine X11_75g C 137 dX11_citizen_134 rfl (fun x134 ex134 => ?_)
          have Sx134 : x134 = nI n + 1 := by rw [ex134, es130, g_up_sj, if_pos rfl, ex129, Sx125]
          refine G_iconst (v := 1) C 138 dX11_citizen_137 rfl rfl ?_
          refine G_isub C 139 dX11_citizen_138 rfl (fun x138 ex138 => ?_)
          exact G_iret C dX11_citizen_139 (⟨(by
              have e6 : ¬ x_n P = 6 := by rw [hxn]; omega
              have eP : s_ctP P km wh wa = s_set P km wh wa := by unfold s_ctP s_ctOk; rw [if_neg k7, if_neg k14, if_neg k25, if_neg e6]
              have hlast : x129 = nI n + 1 := by rw [ex129, Sx125]
              have eS : s_set P km wh wa = g_up (g_up (g_up (g_up (g_up (g_up (g_up P 6 n x54) 7 n x67) 2 n wh) 3 n wa) 4 n 0) 5 n 1) 0 4 (nI n + 1) := by
                unfold s_set
                rw [hxn, hI.2.1.1, ex54, ex67]
              obtain ⟨a, ha, ea⟩ := x_inR (b := 59) k7 rfl (by decide)
              have e54 : x54 = nI (a / 10) := by rw [ex54, ea, show (10 : Int32) = nI 10 from rfl, pk_div (by omega) (by omega) (by omega)]
              have hp := pI_set hI.2.1 (by omega) (a := x54) (b := x67) (c := wh) (e := wa) (f := 0) (g := 1) ⟨a / 10, by omega, e54⟩ (by obtain ⟨z, hz, ez⟩ := x_inR (b := 1023) k25 rfl (by decide); exact ⟨z, by omega, ez⟩) ⟨0, by decide, rfl⟩
              have hm := mv_set (σ := s) (τ := s130) (n := n) (a := x54) (b := x67) (c := wh) (e := wa) (f := 0) (g := 1) (mI_n hI) (by omega) (fun j => by rw [es130, g_up_sj, es122, g_up_n (by decide), es108, g_up_n (by decide), es94, g_up_n (by decide), es80, g_up_n (by decide), es68, g_up_n (by decide), es55, g_up_n (by decide), hlast]) (fun j => by rw [es130, g_up_n (by decide), es122, g_up_n (by decide), es108, g_up_n (by decide), es94, g_up_n (by decide), es80, g_up_n (by decide), es68, g_up_n (by decide), es55, g_up_sj]) (fun j => by rw [es130, g_up_n (by decide), es122, g_up_n (by decide), es108, g_up_n (by decide), es94, g_up_n (by decide), es80, g_up_n (by decide), es68, g_up_sj, es55, g_up_n (by decide)]) (fun j => by rw [es130, g_up_n (by decide), es122, g_up_sj, es108, g_up_sj, es94, g_up_sj, es80, g_up_sj, es68, g_up_n (by decide), es55, g_up_n (by decide)]) (by rw [es130, g_up_n (by decide), es122, g_up_n (by decide), es108, g_up_n (by decide), es94, g_up_n (by decide), es80, g_up_n (by decide), es68, g_up_n (by decide), es55, g_up_n (by decide)])
              have f6 : s130 6 = s 6 := by rw [es130, g_up_n (by decide), es122, g_up_n (by decide), es108, g_up_n (by decide), es94, g_up_n (by decide), es80, g_up_n (by decide), es68, g_up_n (by decide), es55, g_up_n (by decide)]
              have f7 : s130 7 = s 7 := by rw [es130, g_up_n (by decide), es122, g_up_n (by decide), es108, g_up_n (by decide), es94, g_up_n (by decide), es80, g_up_n (by decide), es68, g_up_n (by decide), es55, g_up_n (by decide)]
              rw [hI.1, ← eS] at hm
              have hI2 : mI TX nT (n + 1) l (s_set P km wh wa) s130 := ⟨hm, by rw [eS]; exact hp, fun t ht => by
                have z := hI.2.2 t ht
                unfold mT at z ⊢
                rw [f6, f7]
                exact z⟩
              rw [eP]
              refine ⟨nT, _, l, Rm_now hR hI2 fn_7 (by omega) (fun j hj => ?_) (eI_of hbI.2.2.2.2.2.1 rfl)⟩
              unfold s_set
              simp only [g_up, g_set, g_updj, hxn]
              simp
              exact ⟨if_neg (Nat.ne_of_lt hj), if_neg (Nat.ne_of_lt hj)⟩), by
              have e6 : ¬ x_n P = 6 := by rw [hxn]; omega
              unfold s_ctR s_ctOk
              rw [if_neg k7, if_neg k14, if_neg k25, if_neg e6, ex138, Sx134, hI.2.1.1]
              rw [nI_1, show (1 : Int32) = nI 1 from rfl, pk_sub (by omega), Nat.add_sub_cancel]⟩)
        ·
          have n37 : n = 6 := (g_eqN (a := n) (b := 6) (hx := Sx32) (hy := rfl) (by omega) (by omega)).mp c37
          refine G_bipush (v := (-4)) C 42 dX11_citizen_40 rfl rfl ?_
          exact G_iret C dX11_citizen_42 (⟨by unfold s_ctP s_ctOk; rw [if_neg k7, if_neg k14, if_neg k25, hxn, if_pos n37]; exact ⟨nT, n, l, hR⟩, by unfold s_ctR s_ctOk; rw [if_neg k7, if_neg k14, if_neg k25, hxn, if_pos n37]⟩)
      ·
        have k25 := h22.symm.trans c25
        refine G_bipush (v := (-2)) C 30 dX11_citizen_28 rfl rfl ?_
        exact G_iret C dX11_citizen_30 (⟨by unfold s_ctP s_ctOk; rw [if_neg k7, if_neg k14, if_pos k25]; exact ⟨nT, n, l, hR⟩, by unfold s_ctR s_ctOk; rw [if_neg k7, if_neg k14, if_pos k25]⟩)
