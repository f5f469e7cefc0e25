theorem x_isSo01 (P : gS) (q : Int32) : x_isSo P q = 0 ∨ x_isSo P q = 1 := by
  unfold x_isSo
  repeat (first | exact Or.inl rfl | exact Or.inr rfl | exact x_bit01 _ _ | split)
theorem nI_nm1 {j : Nat} (h : j < 2147483648) : ¬ nI j = -1 := fun z => nI_pos (n := j) (by omega) (by rw [z]; decide)
theorem dX11_isNow_0 : decode cX11_isNow 0 = .ok (.iload_n 1, 1) := by decide +kernel
theorem dX11_isNow_1 : decode cX11_isNow 1 = .ok (.bipush 10, 2) := by decide +kernel
theorem dX11_isNow_3 : decode cX11_isNow 3 = .ok (.if_icmp .ge 22, 3) := by decide +kernel
theorem dX11_isNow_6 : decode cX11_isNow 6 = .ok (.aload_n 0, 1) := by decide +kernel
theorem dX11_isNow_7 : decode cX11_isNow 7 = .ok (.getfield 19, 3) := by decide +kernel
theorem dX11_isNow_10 : decode cX11_isNow 10 = .ok (.iconst 2, 1) := by decide +kernel
theorem dX11_isNow_11 : decode cX11_isNow 11 = .ok (.iaload, 1) := by decide +kernel
theorem dX11_isNow_12 : decode cX11_isNow 12 = .ok (.iload_n 1, 1) := by decide +kernel
theorem dX11_isNow_13 : decode cX11_isNow 13 = .ok (.ishr, 1) := by decide +kernel
theorem dX11_isNow_14 : decode cX11_isNow 14 = .ok (.iconst 1, 1) := by decide +kernel
theorem dX11_isNow_15 : decode cX11_isNow 15 = .ok (.iand, 1) := by decide +kernel
theorem dX11_isNow_16 : decode cX11_isNow 16 = .ok (.ifCond .ne 7, 3) := by decide +kernel
theorem dX11_isNow_19 : decode cX11_isNow 19 = .ok (.iconst 1, 1) := by decide +kernel
theorem dX11_isNow_20 : decode cX11_isNow 20 = .ok (.goto 4, 3) := by decide +kernel
theorem dX11_isNow_23 : decode cX11_isNow 23 = .ok (.iconst 0, 1) := by decide +kernel
theorem dX11_isNow_24 : decode cX11_isNow 24 = .ok (.ireturn, 1) := by decide +kernel
theorem dX11_isNow_25 : decode cX11_isNow 25 = .ok (.iload_n 1, 1) := by decide +kernel
theorem dX11_isNow_26 : decode cX11_isNow 26 = .ok (.bipush 10, 2) := by decide +kernel
theorem dX11_isNow_28 : decode cX11_isNow 28 = .ok (.if_icmp .ne 18, 3) := by decide +kernel
theorem dX11_isNow_31 : decode cX11_isNow 31 = .ok (.aload_n 0, 1) := by decide +kernel
theorem dX11_isNow_32 : decode cX11_isNow 32 = .ok (.getfield 19, 3) := by decide +kernel
theorem dX11_isNow_35 : decode cX11_isNow 35 = .ok (.iconst 2, 1) := by decide +kernel
theorem dX11_isNow_36 : decode cX11_isNow 36 = .ok (.iaload, 1) := by decide +kernel
theorem dX11_isNow_37 : decode cX11_isNow 37 = .ok (.ifCond .ne 7, 3) := by decide +kernel
theorem dX11_isNow_40 : decode cX11_isNow 40 = .ok (.iconst 1, 1) := by decide +kernel
theorem dX11_isNow_41 : decode cX11_isNow 41 = .ok (.goto 4, 3) := by decide +kernel
theorem dX11_isNow_44 : decode cX11_isNow 44 = .ok (.iconst 0, 1) := by decide +kernel
theorem dX11_isNow_45 : decode cX11_isNow 45 = .ok (.ireturn, 1) := by decide +kernel
theorem dX11_isNow_46 : decode cX11_isNow 46 = .ok (.iload_n 1, 1) := by decide +kernel
theorem dX11_isNow_47 : decode cX11_isNow 47 = .ok (.bipush 10, 2) := by decide +kernel
theorem dX11_isNow_49 : decode cX11_isNow 49 = .ok (.idiv, 1) := by decide +kernel
theorem dX11_isNow_50 : decode cX11_isNow 50 = .ok (.iconst 2, 1) := by decide +kernel
theorem dX11_isNow_51 : decode cX11_isNow 51 = .ok (.isub, 1) := by decide +kernel
theorem dX11_isNow_52 : decode cX11_isNow 52 = .ok (.istore_n 2, 1) := by decide +kernel
theorem dX11_isNow_53 : decode cX11_isNow 53 = .ok (.aload_n 0, 1) := by decide +kernel
theorem dX11_isNow_54 : decode cX11_isNow 54 = .ok (.getfield 16, 3) := by decide +kernel
theorem dX11_isNow_57 : decode cX11_isNow 57 = .ok (.iconst 4, 1) := by decide +kernel
theorem dX11_isNow_58 : decode cX11_isNow 58 = .ok (.iload_n 2, 1) := by decide +kernel
theorem dX11_isNow_59 : decode cX11_isNow 59 = .ok (.imul, 1) := by decide +kernel
theorem dX11_isNow_60 : decode cX11_isNow 60 = .ok (.iconst 2, 1) := by decide +kernel
theorem dX11_isNow_61 : decode cX11_isNow 61 = .ok (.iadd, 1) := by decide +kernel
theorem dX11_isNow_62 : decode cX11_isNow 62 = .ok (.iaload, 1) := by decide +kernel
theorem dX11_isNow_63 : decode cX11_isNow 63 = .ok (.iload_n 1, 1) := by decide +kernel
theorem dX11_isNow_64 : decode cX11_isNow 64 = .ok (.bipush 10, 2) := by decide +kernel
theorem dX11_isNow_66 : decode cX11_isNow 66 = .ok (.irem, 1) := by decide +kernel
theorem dX11_isNow_67 : decode cX11_isNow 67 = .ok (.ishr, 1) := by decide +kernel
theorem dX11_isNow_68 : decode cX11_isNow 68 = .ok (.iconst 1, 1) := by decide +kernel
theorem dX11_isNow_69 : decode cX11_isNow 69 = .ok (.iand, 1) := by decide +kernel
theorem dX11_isNow_70 : decode cX11_isNow 70 = .ok (.iconst 1, 1) := by decide +kernel
theorem dX11_isNow_71 : decode cX11_isNow 71 = .ok (.if_icmp .ne 7, 3) := by decide +kernel
theorem dX11_isNow_74 : decode cX11_isNow 74 = .ok (.iconst 1, 1) := by decide +kernel
theorem dX11_isNow_75 : decode cX11_isNow 75 = .ok (.goto 4, 3) := by decide +kernel
theorem dX11_isNow_78 : decode cX11_isNow 78 = .ok (.iconst 0, 1) := by decide +kernel
theorem dX11_isNow_79 : decode cX11_isNow 79 = .ok (.ireturn, 1) := by decide +kernel
set_option maxHeartbeats 4000000 in
set_option maxRecDepth 100000 in
theorem c_X11_isNow (d : Nat) (TX : gTX) (nT n l : Nat) (P s : gS) (hI : mI TX nT n l P s) (q : Int32) (hq : ¬ x_in q 0 10 = 0 ∨ ¬ x_one (q / 10 - 2) n = 0) : gMt SM yX11_isNow cX11_isNow 3 (some .boolean) (d + 1) (fun ad => [.ref (ad 0), .int q]) s (gQi SM (fun r s' => s' = s ∧ r = x_isSo P q)) := by
  have hn6 : n ≤ 6 := hI.2.1.2.1
  have hl6 : l < 6 := mI_l6 hI
  refine gMt_of SM_ok (by decide +kernel) (fun ad => [some (.ref (ad 0)), some (.int q), none]) (fun _ => rfl) (fun _ => rfl) (fun _ => Nat.le_of_ble_eq_true rfl) (fun E C0 => ?_)
  have C : gCx SM E RX11 cX11_isNow 3 (some .boolean) (d + 1) := C0
  have i : mI TX nT n l P s := hI
  refine G_iload_n (i := 1) C 1 dX11_isNow_0 rfl rfl rfl ?_
  refine G_bipush (v := 10) C 3 dX11_isNow_1 rfl rfl ?_
  refine G_icmp_ge C 25 6 dX11_isNow_3 rfl rfl (fun c3 => ?_) (fun c3 => ?_)
  ·
    refine G_iload_n (i := 1) C 26 dX11_isNow_25 rfl rfl rfl ?_
    refine G_bipush (v := 10) C 28 dX11_isNow_26 rfl rfl ?_
    refine G_icmp_ne C 46 31 dX11_isNow_28 rfl rfl (fun c28 => ?_) (fun c28 => ?_)
    ·
      have kq : ¬ x_one (q / 10 - 2) n = 0 := hq.resolve_left (fun h => by obtain ⟨z, hz, ez⟩ := x_inR (b := 10) h rfl (by decide); have h10 : ¬ z = 10 := fun y => c28 (by rw [ez, y]; rfl); exact c3 (by rw [ez, show (10 : Int32) = nI 10 from rfl]; exact (nI_ltI (by omega) (by omega)).mpr (by omega)))
      obtain ⟨uz, huz, euz0⟩ := x_oneT hn6 kq
      refine G_iload_n (i := 1) C 47 dX11_isNow_46 rfl rfl rfl ?_
      refine G_bipush (v := 10) C 49 dX11_isNow_47 rfl rfl ?_
      refine G_idiv C 50 dX11_isNow_49 rfl (by decide) (fun x49 ex49 => ?_)
      refine G_iconst (v := 2) C 51 dX11_isNow_50 rfl rfl ?_
      refine G_isub C 52 dX11_isNow_51 rfl (fun x51 ex51 => ?_)
      have Nx51 : x51 = nI uz := (by rw [ex51, ex49]; exact euz0)
      refine G_istore_n (i := 2) (L' := [some (.ref (e_ad E 0)), some (.int q), some (.int x51)]) C 53 dX11_isNow_52 rfl rfl (Nat.le_of_ble_eq_true rfl) rfl rfl ?_
      refine G_aload_n (i := 0) C 54 dX11_isNow_53 rfl rfl rfl ?_
      refine X11_16g C 57 dX11_isNow_54 rfl ?_
      refine G_iconst (v := 4) C 58 dX11_isNow_57 rfl rfl ?_
      refine G_iload_n (i := 2) C 59 dX11_isNow_58 rfl rfl rfl ?_
      refine G_imul C 60 dX11_isNow_59 rfl (fun x59 ex59 => ?_)
      have Nx59 : x59 = nI (4 * uz) := g_mulN ex59 rfl Nx51
      refine G_iconst (v := 2) C 61 dX11_isNow_60 rfl rfl ?_
      refine G_iadd C 62 dX11_isNow_61 rfl (fun x61 ex61 => ?_)
      have Nx61 : x61 = nI ((4 * uz) + 2) := g_addN ex61 Nx59 rfl
      refine G_iald (n := 24) C 63 (by decide) (eMk (by decide) _ _ _) (((4 * uz) + 2)) Nx61 (by omega) (by decide) dX11_isNow_62 rfl (fun x62 ex62 => ?_)
      have Sx62 : x62 = P 4 uz := ex62.trans (congrFun (congrFun i.1 4) uz)
      obtain ⟨mx62, hmx62, emx62⟩ := (mI_p i (p := uz) (by omega)).2.2
      refine G_iload_n (i := 1) C 64 dX11_isNow_63 rfl rfl rfl ?_
      refine G_bipush (v := 10) C 66 dX11_isNow_64 rfl rfl ?_
      refine G_irem C 67 dX11_isNow_66 rfl (by decide) (fun x66 ex66 => ?_)
      refine G_ishr C 68 dX11_isNow_67 rfl (fun x67 ex67 => ?_)
      refine G_iconst (v := 1) C 69 dX11_isNow_68 rfl rfl ?_
      refine G_iand C 70 dX11_isNow_69 rfl (fun x69 ex69 => ?_)
      refine G_iconst (v := 1) C 71 dX11_isNow_70 rfl rfl ?_
      refine G_icmp_ne C 78 74 dX11_isNow_71 rfl rfl (fun c71 => ?_) (fun c71 => ?_)
      ·
        refine G_iconst (v := 0) C 79 dX11_isNow_78 rfl rfl ?_
        exact G_zret C rfl dX11_isNow_79 (⟨rfl, by
            have hz : ¬ x_bit x62 (q - q / 10 * 10) = 1 := (by unfold x_bit; rw [← ex66, ← ex67, ← ex69]; exact c71)
            have hb : x_isSo P q = x_bit x62 (q - q / 10 * 10) := by unfold x_isSo; rw [if_neg c28, if_neg c3, euz0, nI_clamp (by omega), ← Sx62]
            rw [hb]
            exact (x_bitN1 hz).symm⟩)
      ·
        refine G_iconst (v := 1) C 75 dX11_isNow_74 rfl rfl ?_
        refine G_goto C 79 dX11_isNow_75 rfl ?_
        exact G_zret C rfl dX11_isNow_79 (⟨rfl, by
            have hz : x_bit x62 (q - q / 10 * 10) = 1 := (by unfold x_bit; rw [← ex66, ← ex67, ← ex69]; exact c71)
            have hb : x_isSo P q = x_bit x62 (q - q / 10 * 10) := by unfold x_isSo; rw [if_neg c28, if_neg c3, euz0, nI_clamp (by omega), ← Sx62]
            rw [hb]
            exact hz.symm⟩)
    ·
      refine G_aload_n (i := 0) C 32 dX11_isNow_31 rfl rfl rfl ?_
      refine X11_19g C 35 dX11_isNow_32 rfl ?_
      refine G_iconst (v := 2) C 36 dX11_isNow_35 rfl rfl ?_
      refine G_iald (n := 13) C 37 (by decide) (eMk (by decide) _ _ _) (2) rfl (by omega) (by decide) dX11_isNow_36 rfl (fun x36 ex36 => ?_)
      have Sx36 : x36 = P 0 2 := ex36.trans (mI_v i 0 2)
      refine G_if_ne C 44 40 dX11_isNow_37 rfl rfl (fun c37 => ?_) (fun c37 => ?_)
      ·
        refine G_iconst (v := 0) C 45 dX11_isNow_44 rfl rfl ?_
        exact G_zret C rfl dX11_isNow_45 (⟨rfl, by unfold x_isSo; rw [if_pos c28, if_neg (fun z => c37 (Sx36.trans z))]⟩)
      ·
        refine G_iconst (v := 1) C 41 dX11_isNow_40 rfl rfl ?_
        refine G_goto C 45 dX11_isNow_41 rfl ?_
        exact G_zret C rfl dX11_isNow_45 (⟨rfl, by unfold x_isSo; rw [if_pos c28, if_pos (Sx36.symm.trans c37)]⟩)
  ·
    refine G_aload_n (i := 0) C 7 dX11_isNow_6 rfl rfl rfl ?_
    refine X11_19g C 10 dX11_isNow_7 rfl ?_
    refine G_iconst (v := 2) C 11 dX11_isNow_10 rfl rfl ?_
    refine G_iald (n := 13) C 12 (by decide) (eMk (by decide) _ _ _) (2) rfl (by omega) (by decide) dX11_isNow_11 rfl (fun x11 ex11 => ?_)
    have Sx11 : x11 = P 0 2 := ex11.trans (mI_v i 0 2)
    refine G_iload_n (i := 1) C 13 dX11_isNow_12 rfl rfl rfl ?_
    refine G_ishr C 14 dX11_isNow_13 rfl (fun x13 ex13 => ?_)
    refine G_iconst (v := 1) C 15 dX11_isNow_14 rfl rfl ?_
    refine G_iand C 16 dX11_isNow_15 rfl (fun x15 ex15 => ?_)
    refine G_if_ne C 23 19 dX11_isNow_16 rfl rfl (fun c16 => ?_) (fun c16 => ?_)
    ·
      refine G_iconst (v := 0) C 24 dX11_isNow_23 rfl rfl ?_
      exact G_zret C rfl dX11_isNow_24 (⟨rfl, by unfold x_isSo; rw [if_neg (fun z => by rw [z] at c3; exact absurd c3 (by decide)), if_pos c3, if_neg (by unfold x_bit; rw [← Sx11, ← ex13, ← ex15]; exact c16)]⟩)
    ·
      refine G_iconst (v := 1) C 20 dX11_isNow_19 rfl rfl ?_
      refine G_goto C 24 dX11_isNow_20 rfl ?_
      exact G_zret C rfl dX11_isNow_24 (⟨rfl, by unfold x_isSo; rw [if_neg (fun z => by rw [z] at c3; exact absurd c3 (by decide)), if_pos c3, if_pos (by unfold x_bit; rw [← Sx11, ← ex13, ← ex15]; exact c16)]⟩)
theorem dX11_when_0 : decode cX11_when 0 = .ok (.iload_n 1, 1) := by decide +kernel
theorem dX11_when_1 : decode cX11_when 1 = .ok (.iconst 0, 1) := by decide +kernel
theorem dX11_when_2 : decode cX11_when 2 = .ok (.bipush 10, 2) := by decide +kernel
theorem dX11_when_4 : decode cX11_when 4 = .ok (.invokestatic 78, 3) := by decide +kernel
theorem dX11_when_7 : decode cX11_when 7 = .ok (.ifCond .ne 25, 3) := by decide +kernel
theorem dX11_when_10 : decode cX11_when 10 = .ok (.iload_n 1, 1) := by decide +kernel
theorem dX11_when_11 : decode cX11_when 11 = .ok (.bipush 20, 2) := by decide +kernel
theorem dX11_when_13 : decode cX11_when 13 = .ok (.bipush 19, 2) := by decide +kernel
theorem dX11_when_15 : decode cX11_when 15 = .ok (.bipush 10, 2) := by decide +kernel
theorem dX11_when_17 : decode cX11_when 17 = .ok (.aload_n 0, 1) := by decide +kernel
theorem dX11_when_18 : decode cX11_when 18 = .ok (.getfield 75, 3) := by decide +kernel
theorem dX11_when_21 : decode cX11_when 21 = .ok (.imul, 1) := by decide +kernel
theorem dX11_when_22 : decode cX11_when 22 = .ok (.iadd, 1) := by decide +kernel
theorem dX11_when_23 : decode cX11_when 23 = .ok (.invokestatic 78, 3) := by decide +kernel
theorem dX11_when_26 : decode cX11_when 26 = .ok (.ifCond .ne 6, 3) := by decide +kernel
theorem dX11_when_29 : decode cX11_when 29 = .ok (.bipush (-7), 2) := by decide +kernel
theorem dX11_when_31 : decode cX11_when 31 = .ok (.ireturn, 1) := by decide +kernel
theorem dX11_when_32 : decode cX11_when 32 = .ok (.iconst (-1), 1) := by decide +kernel
theorem dX11_when_33 : decode cX11_when 33 = .ok (.istore_n 2, 1) := by decide +kernel
theorem dX11_when_34 : decode cX11_when 34 = .ok (.aload_n 0, 1) := by decide +kernel
theorem dX11_when_35 : decode cX11_when 35 = .ok (.invokevirtual 212, 3) := by decide +kernel
theorem dX11_when_38 : decode cX11_when 38 = .ok (.iconst 0, 1) := by decide +kernel
theorem dX11_when_39 : decode cX11_when 39 = .ok (.istore_n 3, 1) := by decide +kernel
theorem dX11_when_40 : decode cX11_when 40 = .ok (.iload_n 3, 1) := by decide +kernel
theorem dX11_when_41 : decode cX11_when 41 = .ok (.bipush 60, 2) := by decide +kernel
theorem dX11_when_43 : decode cX11_when 43 = .ok (.if_icmp .gt 33, 3) := by decide +kernel
theorem dX11_when_46 : decode cX11_when 46 = .ok (.iload_n 2, 1) := by decide +kernel
theorem dX11_when_47 : decode cX11_when 47 = .ok (.iconst (-1), 1) := by decide +kernel
theorem dX11_when_48 : decode cX11_when 48 = .ok (.if_icmp .ne 28, 3) := by decide +kernel
theorem dX11_when_51 : decode cX11_when 51 = .ok (.aload_n 0, 1) := by decide +kernel
theorem dX11_when_52 : decode cX11_when 52 = .ok (.iload_n 1, 1) := by decide +kernel
theorem dX11_when_53 : decode cX11_when 53 = .ok (.invokevirtual 224, 3) := by decide +kernel
theorem dX11_when_56 : decode cX11_when 56 = .ok (.ifCond .eq 7, 3) := by decide +kernel
theorem dX11_when_59 : decode cX11_when 59 = .ok (.iload_n 3, 1) := by decide +kernel
theorem dX11_when_60 : decode cX11_when 60 = .ok (.goto 4, 3) := by decide +kernel
theorem dX11_when_63 : decode cX11_when 63 = .ok (.iconst (-1), 1) := by decide +kernel
theorem dX11_when_64 : decode cX11_when 64 = .ok (.istore_n 2, 1) := by decide +kernel
theorem dX11_when_65 : decode cX11_when 65 = .ok (.aload_n 0, 1) := by decide +kernel
theorem dX11_when_66 : decode cX11_when 66 = .ok (.invokevirtual 209, 3) := by decide +kernel
theorem dX11_when_69 : decode cX11_when 69 = .ok (.pop, 1) := by decide +kernel
theorem dX11_when_70 : decode cX11_when 70 = .ok (.iinc 3 1, 3) := by decide +kernel
theorem dX11_when_73 : decode cX11_when 73 = .ok (.goto (-33), 3) := by decide +kernel
theorem dX11_when_76 : decode cX11_when 76 = .ok (.aload_n 0, 1) := by decide +kernel
theorem dX11_when_77 : decode cX11_when 77 = .ok (.invokevirtual 218, 3) := by decide +kernel
theorem dX11_when_80 : decode cX11_when 80 = .ok (.iload_n 2, 1) := by decide +kernel
theorem dX11_when_81 : decode cX11_when 81 = .ok (.ireturn, 1) := by decide +kernel
set_option maxHeartbeats 4000000 in
set_option maxRecDepth 100000 in
theorem c_X11_when (d : Nat) (TX : gTX) (P B s : gS) (hR0 : RM TX P B s) (q : Int32) : gMt SM yX11_when cX11_when 4 (some .int) (d + 10) (fun ad => [.ref (ad 0), .int q]) s (gQi SM (fun r s' => RM TX P B s' ∧ r = s_when TX P q)) := by
  obtain ⟨nT, n, l, hR⟩ := hR0
  have hI := hR.1
  have hn6 : n ≤ 6 := hI.2.1.2.1
  have hl6 : l < 6 := mI_l6 hI
  have hxn : x_n P = n := x_nOf hI.2.1.1 hn6
  have hbI := hR.2.2
  have hnT6 : nT ≤ 6 := hI.2.1.2.2.2.2.1
  obtain ⟨tn0, htn0, etn0⟩ := hbI.2.1
  refine gMt_of SM_ok (by decide +kernel) (fun ad => [some (.ref (ad 0)), some (.int q), none, none]) (fun _ => rfl) (fun _ => rfl) (fun _ => Nat.le_of_ble_eq_true rfl) (fun E C0 => ?_)
  have C : gCx SM E RX11 cX11_when 4 (some .int) (d + 10) := C0
  have fn : Qn s s := Qn.rf
  have i : mI TX nT n l P s := hI
  have fk : Fr mK s s := Fr.rf
  refine G_iload_n (i := 1) C 1 dX11_when_0 rfl rfl rfl ?_
  refine G_iconst (v := 0) C 2 dX11_when_1 rfl rfl ?_
  refine G_bipush (v := 10) C 4 dX11_when_2 rfl rfl ?_
  refine G_calli 7 (G_runS C Kc_X11_in KS_X11_78 (by omega) (c_X11_in 0 q 0 10 s) rfl rfl (Nat.le_of_ble_eq_true rfl) rfl dX11_when_4) rfl (fun x4 s4 h4 => ?_)
  obtain ⟨es4, h4⟩ := h4
  have es4 := es4.symm
  subst es4
  refine G_if_ne C 32 10 dX11_when_7 rfl rfl (fun c7 => ?_) (fun c7 => ?_)
  ·
    have k7 := g_neT h4 c7
    have hq : ¬ x_in q 0 10 = 0 ∨ ¬ x_one (q / 10 - 2) n = 0 := Or.inl k7
    have hok : ¬ s_whOk P q = 0 := by unfold s_whOk; rw [if_neg k7]; decide
    refine G_iconst (v := (-1)) C 33 dX11_when_32 rfl rfl ?_
    refine G_istore_n (i := 2) (L' := [some (.ref (e_ad E 0)), some (.int q), some (.int (-1)), none]) C 34 dX11_when_33 rfl rfl (Nat.le_of_ble_eq_true rfl) rfl rfl ?_
    refine G_aload_n (i := 0) C 35 dX11_when_34 rfl rfl rfl ?_
    refine G_callv 38 (G_runV C Kc_X11_keeps KV_X11_212 (by omega) (by decide) (eM _ _ _) rfl (c_X11_keeps 0 s) rfl rfl rfl (Nat.le_of_ble_eq_true rfl) rfl dX11_when_35) rfl (fun s35 h35 => ?_)
    have fn_1 : Qn s s35 := Qn.tr fn ((Fr.mono (m' := mK) h35.1 (fun k hk => by unfold mK; omega)).KR)
    have i_1 : mI TX nT n l P s35 := mI_kp i h35.1
    have fk_1 : Fr mK s s35 := Fr.tr fk (h35.1.mono (fun k hk => by unfold mK; omega))
    have kp1 : kp s s35 := h35.2
    refine G_iconst (v := 0) C 39 dX11_when_38 rfl rfl ?_
    refine G_istore_n (i := 3) (L' := [some (.ref (e_ad E 0)), some (.int q), some (.int (-1)), some (.int 0)]) C 40 dX11_when_39 rfl rfl (Nat.le_of_ble_eq_true rfl) rfl rfl ?_
    have L40 : ∀ (f40 : Nat) (k : Nat) (fi y : Int32) (sl40 : gS) (Ey : y = nI k) (hk : k ≤ 61) (hw : (fi = -1 ∧ x_when TX P q 61 0 = x_when TX P q (61 - k) k) ∨ (¬ fi = -1 ∧ x_when TX P q 61 0 = fi)) (fnl40 : Qn s sl40) (il40 : mI TX nT n l (x_run TX k P) sl40) (kpl40 : kp s sl40) (fkl40 : Fr mK s sl40), 61 < k + f40 → GW SM E (gFin SM E (gQi SM (fun r s' => RM TX P B s' ∧ r = s_when TX P q))) 40 [some (.ref (e_ad E 0)), some (.int q), some (.int fi), some (.int y)] [] sl40 := by
      intro f40
      induction f40 with
      | zero =>
        intro k fi y sl40 Ey hk hw fnl40 il40 kpl40 fkl40 hf40
        exact absurd hf40 (by omega)
      | succ f40 ih40 =>
        intro k fi y sl40 Ey hk hw fnl40 il40 kpl40 fkl40 hf40
        refine G_iload_n (i := 3) C 41 dX11_when_40 rfl rfl rfl ?_
        refine G_bipush (v := 60) C 43 dX11_when_41 rfl rfl ?_
        refine G_icmp_gt C 76 46 dX11_when_43 rfl rfl (fun c43 => ?_) (fun c43 => ?_)
        ·
          have n43 : 60 < k := (g_ltN (a := 60) (b := k) (hx := rfl) (hy := Ey) (by omega) (by omega)).mp c43
          refine G_aload_n (i := 0) C 77 dX11_when_76 rfl rfl rfl ?_
          refine G_callv 80 (G_runV C Kc_X11_lays KV_X11_218 (by omega) (by decide) (eM _ _ _) rfl (c_X11_lays 0 sl40) rfl rfl rfl (Nat.le_of_ble_eq_true rfl) rfl dX11_when_77) rfl (fun s77 h77 => ?_)
          have fn_2 : Qn s s77 := Qn.tr fnl40 ((Fr.mono (m' := mK) h77.1 (fun k hk => by unfold mK; omega)).KR)
          have i_2 : mI TX nT n l P s77 := mI_lays (s1 := s) hI kpl40 il40 (x_run_1 _ _ _) fkl40 h77.2 h77.1
          have fk_2 : Fr mK s s77 := Fr.tr fkl40 (h77.1.mono (fun k hk => by unfold mK; omega))
          refine G_iload_n (i := 2) C 81 dX11_when_80 rfl rfl rfl ?_
          have hwr : fi = x_when TX P q 61 0 := by
            rcases hw with ⟨w1, w2⟩ | ⟨w1, w2⟩
            · rw [w1, w2, show 61 - k = 0 by omega]; rfl
            · exact w2.symm
          exact G_iret C dX11_when_81 (⟨RM_i hR i_2 fn_2, by unfold s_when; rw [if_neg hok]; exact hwr⟩)
        ·
          have n43 : ¬ 60 < k := fun h => c43 ((g_ltN (a := 60) (b := k) (hx := rfl) (hy := Ey) (by omega) (by omega)).mpr h)
          refine G_iload_n (i := 2) C 47 dX11_when_46 rfl rfl rfl ?_
          refine G_iconst (v := (-1)) C 48 dX11_when_47 rfl rfl ?_
          refine G_icmp_ne C 76 51 dX11_when_48 rfl rfl (fun c48 => ?_) (fun c48 => ?_)
          ·
            refine G_aload_n (i := 0) C 77 dX11_when_76 rfl rfl rfl ?_
            refine G_callv 80 (G_runV C Kc_X11_lays KV_X11_218 (by omega) (by decide) (eM _ _ _) rfl (c_X11_lays 0 sl40) rfl rfl rfl (Nat.le_of_ble_eq_true rfl) rfl dX11_when_77) rfl (fun s77 h77 => ?_)
            have fn_2 : Qn s s77 := Qn.tr fnl40 ((Fr.mono (m' := mK) h77.1 (fun k hk => by unfold mK; omega)).KR)
            have i_2 : mI TX nT n l P s77 := mI_lays (s1 := s) hI kpl40 il40 (x_run_1 _ _ _) fkl40 h77.2 h77.1
            have fk_2 : Fr mK s s77 := Fr.tr fkl40 (h77.1.mono (fun k hk => by unfold mK; omega))
            refine G_iload_n (i := 2) C 81 dX11_when_80 rfl rfl rfl ?_
            exact G_iret C dX11_when_81 (⟨RM_i hR i_2 fn_2, by unfold s_when; rw [if_neg hok]; exact (hw.resolve_left (fun z => c48 z.1)).2.symm⟩)
          ·
            refine G_aload_n (i := 0) C 52 dX11_when_51 rfl rfl rfl ?_
            refine G_iload_n (i := 1) C 53 dX11_when_52 rfl rfl rfl ?_
            refine G_calli 56 (G_runV C Kc_X11_isNow KV_X11_224 (by omega) (by decide) (eM _ _ _) rfl (c_X11_isNow 0 TX nT n l (x_run TX k P) sl40 il40 q hq) rfl rfl rfl (Nat.le_of_ble_eq_true rfl) rfl dX11_when_53) rfl (fun x53 s53 h53 => ?_)
            obtain ⟨es53, h53⟩ := h53
            have es53 := es53.symm
            subst es53
            refine G_if_eq C 63 59 dX11_when_56 rfl rfl (fun c56 => ?_) (fun c56 => ?_)
            ·
              have k56 := h53.symm.trans c56
              refine G_iconst (v := (-1)) C 64 dX11_when_63 rfl rfl ?_
              refine G_istore_n (i := 2) (L' := [some (.ref (e_ad E 0)), some (.int q), some (.int (-1)), some (.int y)]) C 65 dX11_when_64 rfl rfl (Nat.le_of_ble_eq_true rfl) rfl rfl ?_
              refine G_aload_n (i := 0) C 66 dX11_when_65 rfl rfl rfl ?_
              refine G_calli 69 (G_runV C Kc_X11_hourOf KV_X11_209 (by omega) (by decide) (eM _ _ _) rfl (c_X11_hourOf 0 TX nT n l (x_run TX k P) sl40 il40) rfl rfl rfl (Nat.le_of_ble_eq_true rfl) rfl dX11_when_66) rfl (fun x66 s66 h66 => ?_)
              have fn_2 : Qn s s66 := Qn.tr fnl40 (h66.1.HR)
              have i_2 : mI TX nT n l (x_run TX (k + 1) P) s66 := h66.2.1
              have kp_1 : kp s s66 := kp_fr kpl40 h66.1 (by unfold mH; omega)
              have fk_2 : Fr mK s s66 := Fr.tr fkl40 h66.1.HK
              refine G_pop C 70 dX11_when_69 rfl rfl ?_
              refine G_iinc (w := 1) C 73 dX11_when_70 rfl rfl rfl rfl (fun x70 ex70 => ?_)
              have Nx70 : x70 = nI (k + 1) := g_addN ex70 Ey rfl
              show GW SM E _ 73 [some (.ref (e_ad E 0)), some (.int q), some (.int (-1)), some (.int x70)] [] s66
              refine G_goto C 40 dX11_when_73 rfl ?_
              exact ih40 (k + 1) (-1) x70 s66 (g_cn (a := (k + 1)) Nx70 (by first | rfl | omega | (simp only [List.length_cons, List.length_drop]; done) | (simp only [List.length_cons, List.length_drop]; omega))) (by omega) (by
                    have hw1 := (hw.resolve_right (fun z => z.1 c48)).2
                    exact Or.inl ⟨rfl, by rw [hw1, show 61 - k = (61 - (k + 1)) + 1 by omega, x_when, if_pos (h53.symm.trans c56)]⟩) fn_2 (i_2) kp_1 fk_2 (by omega)
            ·
              have k56 := g_neT h53 c56
              refine G_iload_n (i := 3) C 60 dX11_when_59 rfl rfl rfl ?_
              refine G_goto C 64 dX11_when_60 rfl ?_
              refine G_istore_n (i := 2) (L' := [some (.ref (e_ad E 0)), some (.int q), some (.int y), some (.int y)]) C 65 dX11_when_64 rfl rfl (Nat.le_of_ble_eq_true rfl) rfl rfl ?_
              refine G_aload_n (i := 0) C 66 dX11_when_65 rfl rfl rfl ?_
              refine G_calli 69 (G_runV C Kc_X11_hourOf KV_X11_209 (by omega) (by decide) (eM _ _ _) rfl (c_X11_hourOf 0 TX nT n l (x_run TX k P) sl40 il40) rfl rfl rfl (Nat.le_of_ble_eq_true rfl) rfl dX11_when_66) rfl (fun x66 s66 h66 => ?_)
              have fn_2 : Qn s s66 := Qn.tr fnl40 (h66.1.HR)
              have i_2 : mI TX nT n l (x_run TX (k + 1) P) s66 := h66.2.1
              have kp_1 : kp s s66 := kp_fr kpl40 h66.1 (by unfold mH; omega)
              have fk_2 : Fr mK s s66 := Fr.tr fkl40 h66.1.HK
              refine G_pop C 70 dX11_when_69 rfl rfl ?_
              refine G_iinc (w := 1) C 73 dX11_when_70 rfl rfl rfl rfl (fun x70 ex70 => ?_)
              have Nx70 : x70 = nI (k + 1) := g_addN ex70 Ey rfl
              show GW SM E _ 73 [some (.ref (e_ad E 0)), some (.int q), some (.int y), some (.int x70)] [] s66
              refine G_goto C 40 dX11_when_73 rfl ?_
              exact ih40 (k + 1) y x70 s66 (g_cn (a := (k + 1)) Nx70 (by first | rfl | omega | (simp only [List.length_cons, List.length_drop]; done) | (simp only [List.length_cons, List.length_drop]; omega))) (by omega) (by
                    have hw1 := (hw.resolve_right (fun z => z.1 c48)).2
                    exact Or.inr ⟨by rw [Ey]; exact nI_nm1 (by omega), by rw [hw1, show 61 - k = (61 - (k + 1)) + 1 by omega, x_when, if_neg (by rw [← h53]; exact c56)]; exact Ey.symm⟩) fn_2 (i_2) kp_1 fk_2 (by omega)
    exact L40 (61 + 1) 0 (-1) 0 s35 (g_cn (a := 0) rfl (by first | rfl | omega)) (by omega) (Or.inl ⟨rfl, rfl⟩) fn_1 (i_1) kp1 fk_1 (by omega)
  ·
    have k7 := h4.symm.trans c7
    refine G_iload_n (i := 1) C 11 dX11_when_10 rfl rfl rfl ?_
    refine G_bipush (v := 20) C 13 dX11_when_11 rfl rfl ?_
    refine G_bipush (v := 19) C 15 dX11_when_13 rfl rfl ?_
    refine G_bipush (v := 10) C 17 dX11_when_15 rfl rfl ?_
    refine G_aload_n (i := 0) C 18 dX11_when_17 rfl rfl rfl ?_
    refine X11_75g C 21 dX11_when_18 rfl (fun x18 ex18 => ?_)
    have Sx18 : x18 = nI n := ex18.trans (mI_n i)
    refine G_imul C 22 dX11_when_21 rfl (fun x21 ex21 => ?_)
    have Nx21 : x21 = nI (10 * n) := g_mulN ex21 rfl Sx18
    refine G_iadd C 23 dX11_when_22 rfl (fun x22 ex22 => ?_)
    have Nx22 : x22 = nI (19 + (10 * n)) := g_addN ex22 rfl Nx21
    refine G_calli 26 (G_runS C Kc_X11_in KS_X11_78 (by omega) (c_X11_in 0 q 20 x22 s) rfl rfl (Nat.le_of_ble_eq_true rfl) rfl dX11_when_23) rfl (fun x23 s23 h23 => ?_)
    obtain ⟨es23, h23⟩ := h23
    have es23 := es23.symm
    subst es23
    refine G_if_ne C 32 29 dX11_when_26 rfl rfl (fun c26 => ?_) (fun c26 => ?_)
    ·
      have k26 := g_neT h23 c26
      have hq0 : ¬ (if q < 20 then (0 : Int32) else x_one (q / 10 - 2) n) = 0 := by rw [← y_whK hn6, ← Nx22]; exact k26
      have hq : ¬ x_in q 0 10 = 0 ∨ ¬ x_one (q / 10 - 2) n = 0 := Or.inr (by
        by_cases z : q < 20
        · rw [if_pos z] at hq0; exact absurd rfl hq0
        · rw [if_neg z] at hq0; exact hq0)
      have hok : ¬ s_whOk P q = 0 := by unfold s_whOk; rw [if_pos k7, hxn]; exact hq0
      refine G_iconst (v := (-1)) C 33 dX11_when_32 rfl rfl ?_
      refine G_istore_n (i := 2) (L' := [some (.ref (e_ad E 0)), some (.int q), some (.int (-1)), none]) C 34 dX11_when_33 rfl rfl (Nat.le_of_ble_eq_true rfl) rfl rfl ?_
      refine G_aload_n (i := 0) C 35 dX11_when_34 rfl rfl rfl ?_
      refine G_callv 38 (G_runV C Kc_X11_keeps KV_X11_212 (by omega) (by decide) (eM _ _ _) rfl (c_X11_keeps 0 s) rfl rfl rfl (Nat.le_of_ble_eq_true rfl) rfl dX11_when_35) rfl (fun s35 h35 => ?_)
      have fn_1 : Qn s s35 := Qn.tr fn ((Fr.mono (m' := mK) h35.1 (fun k hk => by unfold mK; omega)).KR)
      have i_1 : mI TX nT n l P s35 := mI_kp i h35.1
      have fk_1 : Fr mK s s35 := Fr.tr fk (h35.1.mono (fun k hk => by unfold mK; omega))
      have kp1 : kp s s35 := h35.2
      refine G_iconst (v := 0) C 39 dX11_when_38 rfl rfl ?_
      refine G_istore_n (i := 3) (L' := [some (.ref (e_ad E 0)), some (.int q), some (.int (-1)), some (.int 0)]) C 40 dX11_when_39 rfl rfl (Nat.le_of_ble_eq_true rfl) rfl rfl ?_
      have L40 : ∀ (f40 : Nat) (k : Nat) (fi y : Int32) (sl40 : gS) (Ey : y = nI k) (hk : k ≤ 61) (hw : (fi = -1 ∧ x_when TX P q 61 0 = x_when TX P q (61 - k) k) ∨ (¬ fi = -1 ∧ x_when TX P q 61 0 = fi)) (fnl40 : Qn s sl40) (il40 : mI TX nT n l (x_run TX k P) sl40) (kpl40 : kp s sl40) (fkl40 : Fr mK s sl40), 61 < k + f40 → GW SM E (gFin SM E (gQi SM (fun r s' => RM TX P B s' ∧ r = s_when TX P q))) 40 [some (.ref (e_ad E 0)), some (.int q), some (.int fi), some (.int y)] [] sl40 := by
        intro f40
        induction f40 with
        | zero =>
          intro k fi y sl40 Ey hk hw fnl40 il40 kpl40 fkl40 hf40
          exact absurd hf40 (by omega)
        | succ f40 ih40 =>
          intro k fi y sl40 Ey hk hw fnl40 il40 kpl40 fkl40 hf40
          refine G_iload_n (i := 3) C 41 dX11_when_40 rfl rfl rfl ?_
          refine G_bipush (v := 60) C 43 dX11_when_41 rfl rfl ?_
          refine G_icmp_gt C 76 46 dX11_when_43 rfl rfl (fun c43 => ?_) (fun c43 => ?_)
          ·
            have n43 : 60 < k := (g_ltN (a := 60) (b := k) (hx := rfl) (hy := Ey) (by omega) (by omega)).mp c43
            refine G_aload_n (i := 0) C 77 dX11_when_76 rfl rfl rfl ?_
            refine G_callv 80 (G_runV C Kc_X11_lays KV_X11_218 (by omega) (by decide) (eM _ _ _) rfl (c_X11_lays 0 sl40) rfl rfl rfl (Nat.le_of_ble_eq_true rfl) rfl dX11_when_77) rfl (fun s77 h77 => ?_)
            have fn_2 : Qn s s77 := Qn.tr fnl40 ((Fr.mono (m' := mK) h77.1 (fun k hk => by unfold mK; omega)).KR)
            have i_2 : mI TX nT n l P s77 := mI_lays (s1 := s) hI kpl40 il40 (x_run_1 _ _ _) fkl40 h77.2 h77.1
            have fk_2 : Fr mK s s77 := Fr.tr fkl40 (h77.1.mono (fun k hk => by unfold mK; omega))
            refine G_iload_n (i := 2) C 81 dX11_when_80 rfl rfl rfl ?_
            have hwr : fi = x_when TX P q 61 0 := by
              rcases hw with ⟨w1, w2⟩ | ⟨w1, w2⟩
              · rw [w1, w2, show 61 - k = 0 by omega]; rfl
              · exact w2.symm
            exact G_iret C dX11_when_81 (⟨RM_i hR i_2 fn_2, by unfold s_when; rw [if_neg hok]; exact hwr⟩)
          ·
            have n43 : ¬ 60 < k := fun h => c43 ((g_ltN (a := 60) (b := k) (hx := rfl) (hy := Ey) (by omega) (by omega)).mpr h)
            refine G_iload_n (i := 2) C 47 dX11_when_46 rfl rfl rfl ?_
            refine G_iconst (v := (-1)) C 48 dX11_when_47 rfl rfl ?_
            refine G_icmp_ne C 76 51 dX11_when_48 rfl rfl (fun c48 => ?_) (fun c48 => ?_)
            ·
              refine G_aload_n (i := 0) C 77 dX11_when_76 rfl rfl rfl ?_
              refine G_callv 80 (G_runV C Kc_X11_lays KV_X11_218 (by omega) (by decide) (eM _ _ _) rfl (c_X11_lays 0 sl40) rfl rfl rfl (Nat.le_of_ble_eq_true rfl) rfl dX11_when_77) rfl (fun s77 h77 => ?_)
              have fn_2 : Qn s s77 := Qn.tr fnl40 ((Fr.mono (m' := mK) h77.1 (fun k hk => by unfold mK; omega)).KR)
              have i_2 : mI TX nT n l P s77 := mI_lays (s1 := s) hI kpl40 il40 (x_run_1 _ _ _) fkl40 h77.2 h77.1
              have fk_2 : Fr mK s s77 := Fr.tr fkl40 (h77.1.mono (fun k hk => by unfold mK; omega))
              refine G_iload_n (i := 2) C 81 dX11_when_80 rfl rfl rfl ?_
              exact G_iret C dX11_when_81 (⟨RM_i hR i_2 fn_2, by unfold s_when; rw [if_neg hok]; exact (hw.resolve_left (fun z => c48 z.1)).2.symm⟩)
            ·
              refine G_aload_n (i := 0) C 52 dX11_when_51 rfl rfl rfl ?_
              refine G_iload_n (i := 1) C 53 dX11_when_52 rfl rfl rfl ?_
              refine G_calli 56 (G_runV C Kc_X11_isNow KV_X11_224 (by omega) (by decide) (eM _ _ _) rfl (c_X11_isNow 0 TX nT n l (x_run TX k P) sl40 il40 q hq) rfl rfl rfl (Nat.le_of_ble_eq_true rfl) rfl dX11_when_53) rfl (fun x53 s53 h53 => ?_)
              obtain ⟨es53, h53⟩ := h53
              have es53 := es53.symm
              subst es53
              refine G_if_eq C 63 59 dX11_when_56 rfl rfl (fun c56 => ?_) (fun c56 => ?_)
              ·
                have k56 := h53.symm.trans c56
                refine G_iconst (v := (-1)) C 64 dX11_when_63 rfl rfl ?_
                refine G_istore_n (i := 2) (L' := [some (.ref (e_ad E 0)), some (.int q), some (.int (-1)), some (.int y)]) C 65 dX11_when_64 rfl rfl (Nat.le_of_ble_eq_true rfl) rfl rfl ?_
                refine G_aload_n (i := 0) C 66 dX11_when_65 rfl rfl rfl ?_
                refine G_calli 69 (G_runV C Kc_X11_hourOf KV_X11_209 (by omega) (by decide) (eM _ _ _) rfl (c_X11_hourOf 0 TX nT n l (x_run TX k P) sl40 il40) rfl rfl rfl (Nat.le_of_ble_eq_true rfl) rfl dX11_when_66) rfl (fun x66 s66 h66 => ?_)
                have fn_2 : Qn s s66 := Qn.tr fnl40 (h66.1.HR)
                have i_2 : mI TX nT n l (x_run TX (k + 1) P) s66 := h66.2.1
                have kp_1 : kp s s66 := kp_fr kpl40 h66.1 (by unfold mH; omega)
                have fk_2 : Fr mK s s66 := Fr.tr fkl40 h66.1.HK
                refine G_pop C 70 dX11_when_69 rfl rfl ?_
                refine G_iinc (w := 1) C 73 dX11_when_70 rfl rfl rfl rfl (fun x70 ex70 => ?_)
                have Nx70 : x70 = nI (k + 1) := g_addN ex70 Ey rfl
                show GW SM E _ 73 [some (.ref (e_ad E 0)), some (.int q), some (.int (-1)), some (.int x70)] [] s66
                refine G_goto C 40 dX11_when_73 rfl ?_
                exact ih40 (k + 1) (-1) x70 s66 (g_cn (a := (k + 1)) Nx70 (by first | rfl | omega | (simp only [List.length_cons, List.length_drop]; done) | (simp only [List.length_cons, List.length_drop]; omega))) (by omega) (by
                      have hw1 := (hw.resolve_right (fun z => z.1 c48)).2
                      exact Or.inl ⟨rfl, by rw [hw1, show 61 - k = (61 - (k + 1)) + 1 by omega, x_when, if_pos (h53.symm.trans c56)]⟩) fn_2 (i_2) kp_1 fk_2 (by omega)
              ·
                have k56 := g_neT h53 c56
                refine G_iload_n (i := 3) C 60 dX11_when_59 rfl rfl rfl ?_
                refine G_goto C 64 dX11_when_60 rfl ?_
                refine G_istore_n (i := 2) (L' := [some (.ref (e_ad E 0)), some (.int q), some (.int y), some (.int y)]) C 65 dX11_when_64 rfl rfl (Nat.le_of_ble_eq_true rfl) rfl rfl ?_
                refine G_aload_n (i := 0) C 66 dX11_when_65 rfl rfl rfl ?_
                refine G_calli 69 (G_runV C Kc_X11_hourOf KV_X11_209 (by omega) (by decide) (eM _ _ _) rfl (c_X11_hourOf 0 TX nT n l (x_run TX k P) sl40 il40) rfl rfl rfl (Nat.le_of_ble_eq_true rfl) rfl dX11_when_66) rfl (fun x66 s66 h66 => ?_)
                have fn_2 : Qn s s66 := Qn.tr fnl40 (h66.1.HR)
                have i_2 : mI TX nT n l (x_run TX (k + 1) P) s66 := h66.2.1
                have kp_1 : kp s s66 := kp_fr kpl40 h66.1 (by unfold mH; omega)
                have fk_2 : Fr mK s s66 := Fr.tr fkl40 h66.1.HK
                refine G_pop C 70 dX11_when_69 rfl rfl ?_
                refine G_iinc (w := 1) C 73 dX11_when_70 rfl rfl rfl rfl (fun x70 ex70 => ?_)
                have Nx70 : x70 = nI (k + 1) := g_addN ex70 Ey rfl
                show GW SM E _ 73 [some (.ref (e_ad E 0)), some (.int q), some (.int y), some (.int x70)] [] s66
                refine G_goto C 40 dX11_when_73 rfl ?_
                exact ih40 (k + 1) y x70 s66 (g_cn (a := (k + 1)) Nx70 (by first | rfl | omega | (simp only [List.length_cons, List.length_drop]; done) | (simp only [List.length_cons, List.length_drop]; omega))) (by omega) (by
                      have hw1 := (hw.resolve_right (fun z => z.1 c48)).2
                      exact Or.inr ⟨by rw [Ey]; exact nI_nm1 (by omega), by rw [hw1, show 61 - k = (61 - (k + 1)) + 1 by omega, x_when, if_neg (by rw [← h53]; exact c56)]; exact Ey.symm⟩) fn_2 (i_2) kp_1 fk_2 (by omega)
      exact L40 (61 + 1) 0 (-1) 0 s35 (g_cn (a := 0) rfl (by first | rfl | omega)) (by omega) (Or.inl ⟨rfl, rfl⟩) fn_1 (i_1) kp1 fk_1 (by omega)
    ·
      have k26 := h23.symm.trans c26
      refine G_bipush (v := (-7)) C 31 dX11_when_29 rfl rfl ?_
      exact G_iret C dX11_when_31 (⟨⟨nT, n, l, hR⟩, by unfold s_when; rw [if_pos (by unfold s_whOk; rw [if_pos k7, hxn, ← y_whK hn6, ← Nx22]; exact k26)]⟩)
theorem dX11_where_0 : decode cX11_where 0 = .ok (.iload_n 1, 1) := by decide +kernel
theorem dX11_where_1 : decode cX11_where 1 = .ok (.iconst 0, 1) := by decide +kernel
theorem dX11_where_2 : decode cX11_where 2 = .ok (.iconst 1, 1) := by decide +kernel
theorem dX11_where_3 : decode cX11_where 3 = .ok (.invokestatic 78, 3) := by decide +kernel
theorem dX11_where_6 : decode cX11_where 6 = .ok (.ifCond .ne 6, 3) := by decide +kernel
theorem dX11_where_9 : decode cX11_where 9 = .ok (.bipush (-2), 2) := by decide +kernel
theorem dX11_where_11 : decode cX11_where 11 = .ok (.ireturn, 1) := by decide +kernel
theorem dX11_where_12 : decode cX11_where 12 = .ok (.iconst (-1), 1) := by decide +kernel
theorem dX11_where_13 : decode cX11_where 13 = .ok (.istore_n 2, 1) := by decide +kernel
theorem dX11_where_14 : decode cX11_where 14 = .ok (.iconst (-1), 1) := by decide +kernel
theorem dX11_where_15 : decode cX11_where 15 = .ok (.istore_n 3, 1) := by decide +kernel
theorem dX11_where_16 : decode cX11_where 16 = .ok (.iconst 0, 1) := by decide +kernel
theorem dX11_where_17 : decode cX11_where 17 = .ok (.istore 4, 2) := by decide +kernel
theorem dX11_where_19 : decode cX11_where 19 = .ok (.iload 4, 2) := by decide +kernel
theorem dX11_where_21 : decode cX11_where 21 = .ok (.bipush 9, 2) := by decide +kernel
theorem dX11_where_23 : decode cX11_where 23 = .ok (.if_icmp .ge 52, 3) := by decide +kernel
theorem dX11_where_26 : decode cX11_where 26 = .ok (.aload_n 0, 1) := by decide +kernel
theorem dX11_where_27 : decode cX11_where 27 = .ok (.iload 4, 2) := by decide +kernel
theorem dX11_where_29 : decode cX11_where 29 = .ok (.aload_n 0, 1) := by decide +kernel
theorem dX11_where_30 : decode cX11_where 30 = .ok (.getfield 19, 3) := by decide +kernel
theorem dX11_where_33 : decode cX11_where 33 = .ok (.iconst 2, 1) := by decide +kernel
theorem dX11_where_34 : decode cX11_where 34 = .ok (.iaload, 1) := by decide +kernel
theorem dX11_where_35 : decode cX11_where 35 = .ok (.invokevirtual 203, 3) := by decide +kernel
theorem dX11_where_38 : decode cX11_where 38 = .ok (.invokestatic 82, 3) := by decide +kernel
theorem dX11_where_41 : decode cX11_where 41 = .ok (.istore 5, 2) := by decide +kernel
theorem dX11_where_43 : decode cX11_where 43 = .ok (.iload 5, 2) := by decide +kernel
theorem dX11_where_45 : decode cX11_where 45 = .ok (.iload_n 3, 1) := by decide +kernel
theorem dX11_where_46 : decode cX11_where 46 = .ok (.if_icmp .le 8, 3) := by decide +kernel
theorem dX11_where_49 : decode cX11_where 49 = .ok (.iload 4, 2) := by decide +kernel
theorem dX11_where_51 : decode cX11_where 51 = .ok (.goto 4, 3) := by decide +kernel
theorem dX11_where_54 : decode cX11_where 54 = .ok (.iload_n 2, 1) := by decide +kernel
theorem dX11_where_55 : decode cX11_where 55 = .ok (.istore_n 2, 1) := by decide +kernel
theorem dX11_where_56 : decode cX11_where 56 = .ok (.iload 5, 2) := by decide +kernel
theorem dX11_where_58 : decode cX11_where 58 = .ok (.iload_n 3, 1) := by decide +kernel
theorem dX11_where_59 : decode cX11_where 59 = .ok (.if_icmp .le 8, 3) := by decide +kernel
theorem dX11_where_62 : decode cX11_where 62 = .ok (.iload 5, 2) := by decide +kernel
theorem dX11_where_64 : decode cX11_where 64 = .ok (.goto 4, 3) := by decide +kernel
theorem dX11_where_67 : decode cX11_where 67 = .ok (.iload_n 3, 1) := by decide +kernel
theorem dX11_where_68 : decode cX11_where 68 = .ok (.istore_n 3, 1) := by decide +kernel
theorem dX11_where_69 : decode cX11_where 69 = .ok (.iinc 4 1, 3) := by decide +kernel
theorem dX11_where_72 : decode cX11_where 72 = .ok (.goto (-53), 3) := by decide +kernel
theorem dX11_where_75 : decode cX11_where 75 = .ok (.iload_n 1, 1) := by decide +kernel
theorem dX11_where_76 : decode cX11_where 76 = .ok (.ifCond .ne 7, 3) := by decide +kernel
theorem dX11_where_79 : decode cX11_where 79 = .ok (.iload_n 2, 1) := by decide +kernel
theorem dX11_where_80 : decode cX11_where 80 = .ok (.goto 4, 3) := by decide +kernel
theorem dX11_where_83 : decode cX11_where 83 = .ok (.iload_n 3, 1) := by decide +kernel
theorem dX11_where_84 : decode cX11_where 84 = .ok (.ireturn, 1) := by decide +kernel
set_option maxHeartbeats 4000000 in
set_option maxRecDepth 100000 in
theorem c_X11_where (d : Nat) (TX : gTX) (P B s : gS) (hR0 : RM TX P B s) (q : Int32) : gMt SM yX11_where cX11_where 6 (some .int) (d + 9) (fun ad => [.ref (ad 0), .int q]) s (gQi SM (fun r s' => RM TX P B s' ∧ r = s_where TX P q)) := by
  obtain ⟨nT, n, l, hR⟩ := hR0
  have hI := hR.1
  have hn6 : n ≤ 6 := hI.2.1.2.1
  have hl6 : l < 6 := mI_l6 hI
  have hxn : x_n P = n := x_nOf hI.2.1.1 hn6
  have hbI := hR.2.2
  have hnT6 : nT ≤ 6 := hI.2.1.2.2.2.2.1
  obtain ⟨tn0, htn0, etn0⟩ := hbI.2.1
  refine gMt_of SM_ok (by decide +kernel) (fun ad => [some (.ref (ad 0)), some (.int q), none, none, none, none]) (fun _ => rfl) (fun _ => rfl) (fun _ => Nat.le_of_ble_eq_true rfl) (fun E C0 => ?_)
  have C : gCx SM E RX11 cX11_where 6 (some .int) (d + 9) := C0
  have fn : Qn s s := Qn.rf
  have i : mI TX nT n l P s := hI
  refine G_iload_n (i := 1) C 1 dX11_where_0 rfl rfl rfl ?_
  refine G_iconst (v := 0) C 2 dX11_where_1 rfl rfl ?_
  refine G_iconst (v := 1) C 3 dX11_where_2 rfl rfl ?_
  refine G_calli 6 (G_runS C Kc_X11_in KS_X11_78 (by omega) (c_X11_in 0 q 0 1 s) rfl rfl (Nat.le_of_ble_eq_true rfl) rfl dX11_where_3) rfl (fun x3 s3 h3 => ?_)
  obtain ⟨es3, h3⟩ := h3
  have es3 := es3.symm
  subst es3
  refine G_if_ne C 12 9 dX11_where_6 rfl rfl (fun c6 => ?_) (fun c6 => ?_)
  ·
    have k6 := g_neT h3 c6
    refine G_iconst (v := (-1)) C 13 dX11_where_12 rfl rfl ?_
    refine G_istore_n (i := 2) (L' := [some (.ref (e_ad E 0)), some (.int q), some (.int (-1)), none, none, none]) C 14 dX11_where_13 rfl rfl (Nat.le_of_ble_eq_true rfl) rfl rfl ?_
    refine G_iconst (v := (-1)) C 15 dX11_where_14 rfl rfl ?_
    refine G_istore_n (i := 3) (L' := [some (.ref (e_ad E 0)), some (.int q), some (.int (-1)), some (.int (-1)), none, none]) C 16 dX11_where_15 rfl rfl (Nat.le_of_ble_eq_true rfl) rfl rfl ?_
    refine G_iconst (v := 0) C 17 dX11_where_16 rfl rfl ?_
    refine G_istore (L' := [some (.ref (e_ad E 0)), some (.int q), some (.int (-1)), some (.int (-1)), some (.int 0), none]) C 19 dX11_where_17 rfl (Nat.le_of_ble_eq_true rfl) rfl rfl ?_
    have L19 : ∀ (f19 : Nat) (k : Nat) (be mo y : Int32) (sl19 : gS) (Ey : y = nI k) (hk : k ≤ 9) (hm : mo = b_m (fun c => x_cnt (x_mays TX P (nI c) (P 0 2))) (-1) k) (hb : be = b_b (fun c => x_cnt (x_mays TX P (nI c) (P 0 2))) (-1) k) (fnl19 : Qn s sl19) (il19 : mI TX nT n l P sl19), 9 < k + f19 → GW SM E (gFin SM E (gQi SM (fun r s' => RM TX P B s' ∧ r = s_where TX P q))) 19 [some (.ref (e_ad E 0)), some (.int q), some (.int be), some (.int mo), some (.int y), none] [] sl19 := by
      intro f19
      induction f19 with
      | zero =>
        intro k be mo y sl19 Ey hk hm hb fnl19 il19 hf19
        exact absurd hf19 (by omega)
      | succ f19 ih19 =>
        intro k be mo y sl19 Ey hk hm hb fnl19 il19 hf19
        refine G_iload C 21 dX11_where_19 rfl rfl ?_
        refine G_bipush (v := 9) C 23 dX11_where_21 rfl rfl ?_
        refine G_icmp_ge C 75 26 dX11_where_23 rfl rfl (fun c23 => ?_) (fun c23 => ?_)
        ·
          have n23 : ¬ k < 9 := fun h => c23 ((g_ltN (a := k) (b := 9) (hx := Ey) (hy := rfl) (by omega) (by omega)).mpr h)
          refine G_iload_n (i := 1) C 76 dX11_where_75 rfl rfl rfl ?_
          refine G_if_ne C 83 79 dX11_where_76 rfl rfl (fun c76 => ?_) (fun c76 => ?_)
          ·
            refine G_iload_n (i := 3) C 84 dX11_where_83 rfl rfl rfl ?_
            exact G_iret C dX11_where_84 (⟨RM_i hR il19 fnl19, by
                have e : k = 9 := by omega
                subst e
                unfold s_where; rw [if_neg k6, if_neg c76]; exact hm⟩)
          ·
            refine G_iload_n (i := 2) C 80 dX11_where_79 rfl rfl rfl ?_
            refine G_goto C 84 dX11_where_80 rfl ?_
            exact G_iret C dX11_where_84 (⟨RM_i hR il19 fnl19, by
                have e : k = 9 := by omega
                subst e
                unfold s_where; rw [if_neg k6, if_pos c76]; exact hb⟩)
        ·
          have n23 : k < 9 := (g_ltN (a := k) (b := 9) (hx := Ey) (hy := rfl) (by omega) (by omega)).mp c23
          refine G_aload_n (i := 0) C 27 dX11_where_26 rfl rfl rfl ?_
          refine G_iload C 29 dX11_where_27 rfl rfl ?_
          refine G_aload_n (i := 0) C 30 dX11_where_29 rfl rfl rfl ?_
          refine X11_19g C 33 dX11_where_30 rfl ?_
          refine G_iconst (v := 2) C 34 dX11_where_33 rfl rfl ?_
          refine G_iald (n := 13) C 35 (by decide) (eMk (by decide) _ _ _) (2) rfl (by omega) (by decide) dX11_where_34 rfl (fun x34 ex34 => ?_)
          have Sx34 : x34 = P 0 2 := ex34.trans (mI_v il19 0 2)
          obtain ⟨mx34, hmx34, emx34⟩ := il19.2.1.2.2.2.2.2.2.2.1
          refine G_calli 38 (G_runV C Kc_X11_maySet KV_X11_203 (by omega) (by decide) (eM _ _ _) rfl (c_X11_maySet 0 TX nT n l P sl19 il19 y x34) rfl rfl rfl (Nat.le_of_ble_eq_true rfl) rfl dX11_where_35) rfl (fun x35 s35 h35 => ?_)
          have fn_1 : Qn s s35 := Qn.tr fnl19 (h35.1.MR)
          have i_1 : mI TX nT n l P s35 := mI_fr il19 (h35.1)
          refine G_calli 41 (G_runS C Kc_X11_onesOf KS_X11_82 (by omega) (c_X11_onesOf 0 x35 s35) rfl rfl (Nat.le_of_ble_eq_true rfl) rfl dX11_where_38) rfl (fun x38 s38 h38 => ?_)
          obtain ⟨es38, h38⟩ := h38
          have es38 := es38.symm
          subst es38
          have hf : x38 = (fun c => x_cnt (x_mays TX P (nI c) (P 0 2))) k := by rw [h38, h35.2, Sx34, Ey]
          refine G_istore (L' := [some (.ref (e_ad E 0)), some (.int q), some (.int be), some (.int mo), some (.int y), some (.int x38)]) C 43 dX11_where_41 rfl (Nat.le_of_ble_eq_true rfl) rfl rfl ?_
          refine G_iload C 45 dX11_where_43 rfl rfl ?_
          refine G_iload_n (i := 3) C 46 dX11_where_45 rfl rfl rfl ?_
          refine G_icmp_le C 54 49 dX11_where_46 rfl rfl (fun c46 => ?_) (fun c46 => ?_)
          ·
            refine G_iload_n (i := 2) C 55 dX11_where_54 rfl rfl rfl ?_
            refine G_istore_n (i := 2) (L' := [some (.ref (e_ad E 0)), some (.int q), some (.int be), some (.int mo), some (.int y), some (.int x38)]) C 56 dX11_where_55 rfl rfl (Nat.le_of_ble_eq_true rfl) rfl rfl ?_
            refine G_iload C 58 dX11_where_56 rfl rfl ?_
            refine G_iload_n (i := 3) C 59 dX11_where_58 rfl rfl rfl ?_
            refine G_icmp_le C 67 62 dX11_where_59 rfl rfl (fun c59 => ?_) (fun c59 => ?_)
            ·
              refine G_iload_n (i := 3) C 68 dX11_where_67 rfl rfl rfl ?_
              refine G_istore_n (i := 3) (L' := [some (.ref (e_ad E 0)), some (.int q), some (.int be), some (.int mo), some (.int y), some (.int x38)]) C 69 dX11_where_68 rfl rfl (Nat.le_of_ble_eq_true rfl) rfl rfl ?_
              refine G_iinc (w := 1) C 72 dX11_where_69 rfl rfl rfl rfl (fun x69 ex69 => ?_)
              have Nx69 : x69 = nI (k + 1) := g_addN ex69 Ey rfl
              show GW SM E _ 72 [some (.ref (e_ad E 0)), some (.int q), some (.int be), some (.int mo), some (.int x69), some (.int x38)] [] s35
              refine G_goto C 19 dX11_where_72 rfl ?_
              refine G_drop (L' := [some (.ref (e_ad E 0)), some (.int q), some (.int be), some (.int mo), some (.int x69), none]) ⟨rfl, rfl, rfl, rfl, rfl, trivial⟩ ?_
              exact ih19 (k + 1) be mo x69 s35 (g_cn (a := (k + 1)) Nx69 (by first | rfl | omega | (simp only [List.length_cons, List.length_drop]; done) | (simp only [List.length_cons, List.length_drop]; omega))) (by omega) (by rw [b_m, if_neg (by have z := c46; rw [hf, hm] at z; exact z)]; exact hm) (by rw [b_b, if_neg (by have z := c46; rw [hf, hm] at z; exact z)]; exact hb) fn_1 i_1 (by omega)
            ·
              exact absurd c59 c46
          ·
            refine G_iload C 51 dX11_where_49 rfl rfl ?_
            refine G_goto C 55 dX11_where_51 rfl ?_
            refine G_istore_n (i := 2) (L' := [some (.ref (e_ad E 0)), some (.int q), some (.int y), some (.int mo), some (.int y), some (.int x38)]) C 56 dX11_where_55 rfl rfl (Nat.le_of_ble_eq_true rfl) rfl rfl ?_
            refine G_iload C 58 dX11_where_56 rfl rfl ?_
            refine G_iload_n (i := 3) C 59 dX11_where_58 rfl rfl rfl ?_
            refine G_icmp_le C 67 62 dX11_where_59 rfl rfl (fun c59 => ?_) (fun c59 => ?_)
            ·
              exact absurd c46 c59
            ·
              refine G_iload C 64 dX11_where_62 rfl rfl ?_
              refine G_goto C 68 dX11_where_64 rfl ?_
              refine G_istore_n (i := 3) (L' := [some (.ref (e_ad E 0)), some (.int q), some (.int y), some (.int x38), some (.int y), some (.int x38)]) C 69 dX11_where_68 rfl rfl (Nat.le_of_ble_eq_true rfl) rfl rfl ?_
              refine G_iinc (w := 1) C 72 dX11_where_69 rfl rfl rfl rfl (fun x69 ex69 => ?_)
              have Nx69 : x69 = nI (k + 1) := g_addN ex69 Ey rfl
              show GW SM E _ 72 [some (.ref (e_ad E 0)), some (.int q), some (.int y), some (.int x38), some (.int x69), some (.int x38)] [] s35
              refine G_goto C 19 dX11_where_72 rfl ?_
              refine G_drop (L' := [some (.ref (e_ad E 0)), some (.int q), some (.int y), some (.int x38), some (.int x69), none]) ⟨rfl, rfl, rfl, rfl, rfl, trivial⟩ ?_
              exact ih19 (k + 1) y x38 x69 s35 (g_cn (a := (k + 1)) Nx69 (by first | rfl | omega | (simp only [List.length_cons, List.length_drop]; done) | (simp only [List.length_cons, List.length_drop]; omega))) (by omega) (by rw [b_m, if_pos (by have z := c46; rw [hf, hm] at z; exact z)]; exact hf) (by rw [b_b, if_pos (by have z := c46; rw [hf, hm] at z; exact z)]; exact Ey) fn_1 i_1 (by omega)
    exact L19 (9 + 1) 0 (-1) (-1) 0 s (g_cn (a := 0) rfl (by first | rfl | omega)) (by omega) (rfl) (rfl) fn i (by omega)
  ·
    have k6 := h3.symm.trans c6
    refine G_bipush (v := (-2)) C 11 dX11_where_9 rfl rfl ?_
    exact G_iret C dX11_where_11 (⟨⟨nT, n, l, hR⟩, by unfold s_where; rw [if_pos k6]⟩)
theorem dX11_begin_0 : decode cX11_begin 0 = .ok (.iload_n 1, 1) := by decide +kernel
theorem dX11_begin_1 : decode cX11_begin 1 = .ok (.iconst 0, 1) := by decide +kernel
theorem dX11_begin_2 : decode cX11_begin 2 = .ok (.bipush 40, 2) := by decide +kernel
theorem dX11_begin_4 : decode cX11_begin 4 = .ok (.invokestatic 78, 3) := by decide +kernel
theorem dX11_begin_7 : decode cX11_begin 7 = .ok (.ifCond .eq 12, 3) := by decide +kernel
theorem dX11_begin_10 : decode cX11_begin 10 = .ok (.iload_n 2, 1) := by decide +kernel
theorem dX11_begin_11 : decode cX11_begin 11 = .ok (.iconst 0, 1) := by decide +kernel
theorem dX11_begin_12 : decode cX11_begin 12 = .ok (.iconst 1, 1) := by decide +kernel
theorem dX11_begin_13 : decode cX11_begin 13 = .ok (.invokestatic 78, 3) := by decide +kernel
theorem dX11_begin_16 : decode cX11_begin 16 = .ok (.ifCond .ne 6, 3) := by decide +kernel
theorem dX11_begin_19 : decode cX11_begin 19 = .ok (.bipush (-7), 2) := by decide +kernel
theorem dX11_begin_21 : decode cX11_begin 21 = .ok (.ireturn, 1) := by decide +kernel
theorem dX11_begin_22 : decode cX11_begin 22 = .ok (.aload_n 0, 1) := by decide +kernel
theorem dX11_begin_23 : decode cX11_begin 23 = .ok (.getfield 19, 3) := by decide +kernel
theorem dX11_begin_26 : decode cX11_begin 26 = .ok (.iconst 1, 1) := by decide +kernel
theorem dX11_begin_27 : decode cX11_begin 27 = .ok (.iaload, 1) := by decide +kernel
theorem dX11_begin_28 : decode cX11_begin 28 = .ok (.istore_n 3, 1) := by decide +kernel
theorem dX11_begin_29 : decode cX11_begin 29 = .ok (.iconst (-1), 1) := by decide +kernel
theorem dX11_begin_30 : decode cX11_begin 30 = .ok (.istore 4, 2) := by decide +kernel
theorem dX11_begin_32 : decode cX11_begin 32 = .ok (.iconst (-1), 1) := by decide +kernel
theorem dX11_begin_33 : decode cX11_begin 33 = .ok (.istore 5, 2) := by decide +kernel
theorem dX11_begin_35 : decode cX11_begin 35 = .ok (.iconst 0, 1) := by decide +kernel
theorem dX11_begin_36 : decode cX11_begin 36 = .ok (.istore 6, 2) := by decide +kernel
theorem dX11_begin_38 : decode cX11_begin 38 = .ok (.iload 6, 2) := by decide +kernel
theorem dX11_begin_40 : decode cX11_begin 40 = .ok (.bipush 9, 2) := by decide +kernel
theorem dX11_begin_42 : decode cX11_begin 42 = .ok (.if_icmp .ge 56, 3) := by decide +kernel
theorem dX11_begin_45 : decode cX11_begin 45 = .ok (.aload_n 0, 1) := by decide +kernel
theorem dX11_begin_46 : decode cX11_begin 46 = .ok (.getfield 19, 3) := by decide +kernel
theorem dX11_begin_49 : decode cX11_begin 49 = .ok (.iconst 1, 1) := by decide +kernel
theorem dX11_begin_50 : decode cX11_begin 50 = .ok (.iload 6, 2) := by decide +kernel
theorem dX11_begin_52 : decode cX11_begin 52 = .ok (.iastore, 1) := by decide +kernel
theorem dX11_begin_53 : decode cX11_begin 53 = .ok (.aload_n 0, 1) := by decide +kernel
theorem dX11_begin_54 : decode cX11_begin 54 = .ok (.iload_n 1, 1) := by decide +kernel
theorem dX11_begin_55 : decode cX11_begin 55 = .ok (.invokevirtual 227, 3) := by decide +kernel
theorem dX11_begin_58 : decode cX11_begin 58 = .ok (.istore 7, 2) := by decide +kernel
theorem dX11_begin_60 : decode cX11_begin 60 = .ok (.iload 7, 2) := by decide +kernel
theorem dX11_begin_62 : decode cX11_begin 62 = .ok (.iload 5, 2) := by decide +kernel
theorem dX11_begin_64 : decode cX11_begin 64 = .ok (.if_icmp .le 8, 3) := by decide +kernel
theorem dX11_begin_67 : decode cX11_begin 67 = .ok (.iload 6, 2) := by decide +kernel
theorem dX11_begin_69 : decode cX11_begin 69 = .ok (.goto 5, 3) := by decide +kernel
theorem dX11_begin_72 : decode cX11_begin 72 = .ok (.iload 4, 2) := by decide +kernel
theorem dX11_begin_74 : decode cX11_begin 74 = .ok (.istore 4, 2) := by decide +kernel
theorem dX11_begin_76 : decode cX11_begin 76 = .ok (.iload 7, 2) := by decide +kernel
theorem dX11_begin_78 : decode cX11_begin 78 = .ok (.iload 5, 2) := by decide +kernel
theorem dX11_begin_80 : decode cX11_begin 80 = .ok (.if_icmp .le 8, 3) := by decide +kernel
theorem dX11_begin_83 : decode cX11_begin 83 = .ok (.iload 7, 2) := by decide +kernel
theorem dX11_begin_85 : decode cX11_begin 85 = .ok (.goto 5, 3) := by decide +kernel
theorem dX11_begin_88 : decode cX11_begin 88 = .ok (.iload 5, 2) := by decide +kernel
theorem dX11_begin_90 : decode cX11_begin 90 = .ok (.istore 5, 2) := by decide +kernel
theorem dX11_begin_92 : decode cX11_begin 92 = .ok (.iinc 6 1, 3) := by decide +kernel
theorem dX11_begin_95 : decode cX11_begin 95 = .ok (.goto (-57), 3) := by decide +kernel
theorem dX11_begin_98 : decode cX11_begin 98 = .ok (.aload_n 0, 1) := by decide +kernel
theorem dX11_begin_99 : decode cX11_begin 99 = .ok (.getfield 19, 3) := by decide +kernel
theorem dX11_begin_102 : decode cX11_begin 102 = .ok (.iconst 1, 1) := by decide +kernel
theorem dX11_begin_103 : decode cX11_begin 103 = .ok (.iload_n 3, 1) := by decide +kernel
theorem dX11_begin_104 : decode cX11_begin 104 = .ok (.iastore, 1) := by decide +kernel
theorem dX11_begin_105 : decode cX11_begin 105 = .ok (.iload_n 2, 1) := by decide +kernel
theorem dX11_begin_106 : decode cX11_begin 106 = .ok (.ifCond .ne 8, 3) := by decide +kernel
theorem dX11_begin_109 : decode cX11_begin 109 = .ok (.iload 4, 2) := by decide +kernel
theorem dX11_begin_111 : decode cX11_begin 111 = .ok (.goto 5, 3) := by decide +kernel
theorem dX11_begin_114 : decode cX11_begin 114 = .ok (.iload 5, 2) := by decide +kernel
theorem dX11_begin_116 : decode cX11_begin 116 = .ok (.ireturn, 1) := by decide +kernel
set_option maxHeartbeats 4000000 in
set_option maxRecDepth 100000 in
theorem c_X11_begin (d : Nat) (TX : gTX) (P B s : gS) (hR0 : RM TX P B s) (m q : Int32) : gMt SM yX11_begin cX11_begin 8 (some .int) (d + 12) (fun ad => [.ref (ad 0), .int m, .int q]) s (gQi SM (fun r s' => RM TX P B s' ∧ r = s_begin TX P m q)) := by
  obtain ⟨nT, n, l, hR⟩ := hR0
  have hI := hR.1
  have hn6 : n ≤ 6 := hI.2.1.2.1
  have hl6 : l < 6 := mI_l6 hI
  have hxn : x_n P = n := x_nOf hI.2.1.1 hn6
  have hbI := hR.2.2
  have hnT6 : nT ≤ 6 := hI.2.1.2.2.2.2.1
  obtain ⟨tn0, htn0, etn0⟩ := hbI.2.1
  refine gMt_of SM_ok (by decide +kernel) (fun ad => [some (.ref (ad 0)), some (.int m), some (.int q), none, none, none, none, none]) (fun _ => rfl) (fun _ => rfl) (fun _ => Nat.le_of_ble_eq_true rfl) (fun E C0 => ?_)
  have C : gCx SM E RX11 cX11_begin 8 (some .int) (d + 12) := C0
  have fn : Qn s s := Qn.rf
  have i : mI TX nT n l P s := hI
  refine G_iload_n (i := 1) C 1 dX11_begin_0 rfl rfl rfl ?_
  refine G_iconst (v := 0) C 2 dX11_begin_1 rfl rfl ?_
  refine G_bipush (v := 40) C 4 dX11_begin_2 rfl rfl ?_
  refine G_calli 7 (G_runS C Kc_X11_in KS_X11_78 (by omega) (c_X11_in 0 m 0 40 s) rfl rfl (Nat.le_of_ble_eq_true rfl) rfl dX11_begin_4) rfl (fun x4 s4 h4 => ?_)
  obtain ⟨es4, h4⟩ := h4
  have es4 := es4.symm
  subst es4
  refine G_if_eq C 19 10 dX11_begin_7 rfl rfl (fun c7 => ?_) (fun c7 => ?_)
  ·
    have k7 := h4.symm.trans c7
    refine G_bipush (v := (-7)) C 21 dX11_begin_19 rfl rfl ?_
    exact G_iret C dX11_begin_21 (⟨⟨nT, n, l, hR⟩, by unfold s_begin; rw [if_pos k7]⟩)
  ·
    have k7 := g_neT h4 c7
    obtain ⟨um, hum, eum⟩ := x_inR (b := 40) k7 rfl (by decide)
    have cum : m.toNatClampNeg = um := by rw [eum, nI_clamp (by omega)]
    refine G_iload_n (i := 2) C 11 dX11_begin_10 rfl rfl rfl ?_
    refine G_iconst (v := 0) C 12 dX11_begin_11 rfl rfl ?_
    refine G_iconst (v := 1) C 13 dX11_begin_12 rfl rfl ?_
    refine G_calli 16 (G_runS C Kc_X11_in KS_X11_78 (by omega) (c_X11_in 0 q 0 1 s) rfl rfl (Nat.le_of_ble_eq_true rfl) rfl dX11_begin_13) rfl (fun x13 s13 h13 => ?_)
    obtain ⟨es13, h13⟩ := h13
    have es13 := es13.symm
    subst es13
    refine G_if_ne C 22 19 dX11_begin_16 rfl rfl (fun c16 => ?_) (fun c16 => ?_)
    ·
      have k16 := g_neT h13 c16
      refine G_aload_n (i := 0) C 23 dX11_begin_22 rfl rfl rfl ?_
      refine X11_19g C 26 dX11_begin_23 rfl ?_
      refine G_iconst (v := 1) C 27 dX11_begin_26 rfl rfl ?_
      refine G_iald (n := 13) C 28 (by decide) (eMk (by decide) _ _ _) (1) rfl (by omega) (by decide) dX11_begin_27 rfl (fun x27 ex27 => ?_)
      have Sx27 : x27 = P 0 1 := ex27.trans (mI_v i 0 1)
      obtain ⟨mx27, hmx27, emx27⟩ := i.2.1.2.2.2.2.2.2.2.2
      refine G_istore_n (i := 3) (L' := [some (.ref (e_ad E 0)), some (.int m), some (.int q), some (.int x27), none, none, none, none]) C 29 dX11_begin_28 rfl rfl (Nat.le_of_ble_eq_true rfl) rfl rfl ?_
      refine G_iconst (v := (-1)) C 30 dX11_begin_29 rfl rfl ?_
      refine G_istore (L' := [some (.ref (e_ad E 0)), some (.int m), some (.int q), some (.int x27), some (.int (-1)), none, none, none]) C 32 dX11_begin_30 rfl (Nat.le_of_ble_eq_true rfl) rfl rfl ?_
      refine G_iconst (v := (-1)) C 33 dX11_begin_32 rfl rfl ?_
      refine G_istore (L' := [some (.ref (e_ad E 0)), some (.int m), some (.int q), some (.int x27), some (.int (-1)), some (.int (-1)), none, none]) C 35 dX11_begin_33 rfl (Nat.le_of_ble_eq_true rfl) rfl rfl ?_
      refine G_iconst (v := 0) C 36 dX11_begin_35 rfl rfl ?_
      refine G_istore (L' := [some (.ref (e_ad E 0)), some (.int m), some (.int q), some (.int x27), some (.int (-1)), some (.int (-1)), some (.int 0), none]) C 38 dX11_begin_36 rfl (Nat.le_of_ble_eq_true rfl) rfl rfl ?_
      have L38 : ∀ (f38 : Nat) (k : Nat) (w : Int32) (be mo y : Int32) (sl38 : gS) (Ey : y = nI k) (hk : k ≤ 9) (hm : mo = b_m (fun c => x_cr TX um (g_up P 0 1 (nI c))) (-1) k) (hb : be = b_b (fun c => x_cr TX um (g_up P 0 1 (nI c))) (-1) k) (fnl38 : Qn s sl38) (il38 : mI TX nT n l (g_up P 0 1 w) sl38), 9 < k + f38 → GW SM E (gFin SM E (gQi SM (fun r s' => RM TX P B s' ∧ r = s_begin TX P m q))) 38 [some (.ref (e_ad E 0)), some (.int m), some (.int q), some (.int x27), some (.int be), some (.int mo), some (.int y), none] [] sl38 := by
        intro f38
        induction f38 with
        | zero =>
          intro k w be mo y sl38 Ey hk hm hb fnl38 il38 hf38
          exact absurd hf38 (by omega)
        | succ f38 ih38 =>
          intro k w be mo y sl38 Ey hk hm hb fnl38 il38 hf38
          refine G_iload C 40 dX11_begin_38 rfl rfl ?_
          refine G_bipush (v := 9) C 42 dX11_begin_40 rfl rfl ?_
          refine G_icmp_ge C 98 45 dX11_begin_42 rfl rfl (fun c42 => ?_) (fun c42 => ?_)
          ·
            have n42 : ¬ k < 9 := fun h => c42 ((g_ltN (a := k) (b := 9) (hx := Ey) (hy := rfl) (by omega) (by omega)).mpr h)
            refine G_aload_n (i := 0) C 99 dX11_begin_98 rfl rfl rfl ?_
            refine X11_19g C 102 dX11_begin_99 rfl ?_
            refine G_iconst (v := 1) C 103 dX11_begin_102 rfl rfl ?_
            refine G_iload_n (i := 3) C 104 dX11_begin_103 rfl rfl rfl ?_
            refine G_iast (n := 13) C 105 (by decide) (fun σ => eMk (by decide) _ _ σ) (1) rfl (by omega) (by decide) (Nat.le_refl _) dX11_begin_104 rfl (fun s104 es104 => ?_)
            have fn_1 : Qn s s104 := Qn.tr fnl38 ((Qm.up es104 (by unfold mR; omega)).n)
            have i_1 : mI TX nT n l P s104 := by have z := mI_corner il38 es104 ⟨mx27, hmx27, Sx27.trans emx27⟩; rw [g_up2, Sx27, g_up_id] at z; exact z
            refine G_iload_n (i := 2) C 106 dX11_begin_105 rfl rfl rfl ?_
            refine G_if_ne C 114 109 dX11_begin_106 rfl rfl (fun c106 => ?_) (fun c106 => ?_)
            ·
              refine G_iload C 116 dX11_begin_114 rfl rfl ?_
              exact G_iret C dX11_begin_116 (⟨RM_i hR i_1 fn_1, by
                  have e : k = 9 := by omega
                  subst e
                  unfold s_begin; rw [if_neg k7, if_neg k16, cum, if_neg c106]; exact hm⟩)
            ·
              refine G_iload C 111 dX11_begin_109 rfl rfl ?_
              refine G_goto C 116 dX11_begin_111 rfl ?_
              exact G_iret C dX11_begin_116 (⟨RM_i hR i_1 fn_1, by
                  have e : k = 9 := by omega
                  subst e
                  unfold s_begin; rw [if_neg k7, if_neg k16, cum, if_pos c106]; exact hb⟩)
          ·
            have n42 : k < 9 := (g_ltN (a := k) (b := 9) (hx := Ey) (hy := rfl) (by omega) (by omega)).mp c42
            refine G_aload_n (i := 0) C 46 dX11_begin_45 rfl rfl rfl ?_
            refine X11_19g C 49 dX11_begin_46 rfl ?_
            refine G_iconst (v := 1) C 50 dX11_begin_49 rfl rfl ?_
            refine G_iload C 52 dX11_begin_50 rfl rfl ?_
            refine G_iast (n := 13) C 53 (by decide) (fun σ => eMk (by decide) _ _ σ) (1) rfl (by omega) (by decide) (Nat.le_refl _) dX11_begin_52 rfl (fun s52 es52 => ?_)
            have fn_1 : Qn s s52 := Qn.tr fnl38 ((Qm.up es52 (by unfold mR; omega)).n)
            have i_1 : mI TX nT n l (g_up P 0 1 (nI k)) s52 := by have z := mI_corner il38 es52 ⟨k, by omega, Ey⟩; rw [g_up2, Ey] at z; exact z
            refine G_aload_n (i := 0) C 54 dX11_begin_53 rfl rfl rfl ?_
            refine G_iload_n (i := 1) C 55 dX11_begin_54 rfl rfl rfl ?_
            refine G_calli 58 (G_runV C Kc_X11_criedIn KV_X11_227 (by omega) (by decide) (eM _ _ _) rfl (c_X11_criedIn 0 TX nT n l (g_up P 0 1 (nI k)) s52 i_1 m um eum (by omega)) rfl rfl rfl (Nat.le_of_ble_eq_true rfl) rfl dX11_begin_55) rfl (fun x55 s55 h55 => ?_)
            have fn_2 : Qn s s55 := Qn.tr fn_1 (h55.1.KR)
            have i_2 : mI TX nT n l (g_up P 0 1 (nI k)) s55 := h55.2.1
            have hf : x55 = (fun c => x_cr TX um (g_up P 0 1 (nI c))) k := h55.2.2
            refine G_istore (L' := [some (.ref (e_ad E 0)), some (.int m), some (.int q), some (.int x27), some (.int be), some (.int mo), some (.int y), some (.int x55)]) C 60 dX11_begin_58 rfl (Nat.le_of_ble_eq_true rfl) rfl rfl ?_
            refine G_iload C 62 dX11_begin_60 rfl rfl ?_
            refine G_iload C 64 dX11_begin_62 rfl rfl ?_
            refine G_icmp_le C 72 67 dX11_begin_64 rfl rfl (fun c64 => ?_) (fun c64 => ?_)
            ·
              refine G_iload C 74 dX11_begin_72 rfl rfl ?_
              refine G_istore (L' := [some (.ref (e_ad E 0)), some (.int m), some (.int q), some (.int x27), some (.int be), some (.int mo), some (.int y), some (.int x55)]) C 76 dX11_begin_74 rfl (Nat.le_of_ble_eq_true rfl) rfl rfl ?_
              refine G_iload C 78 dX11_begin_76 rfl rfl ?_
              refine G_iload C 80 dX11_begin_78 rfl rfl ?_
              refine G_icmp_le C 88 83 dX11_begin_80 rfl rfl (fun c80 => ?_) (fun c80 => ?_)
              ·
                refine G_iload C 90 dX11_begin_88 rfl rfl ?_
                refine G_istore (L' := [some (.ref (e_ad E 0)), some (.int m), some (.int q), some (.int x27), some (.int be), some (.int mo), some (.int y), some (.int x55)]) C 92 dX11_begin_90 rfl (Nat.le_of_ble_eq_true rfl) rfl rfl ?_
                refine G_iinc (w := 1) C 95 dX11_begin_92 rfl rfl rfl rfl (fun x92 ex92 => ?_)
                have Nx92 : x92 = nI (k + 1) := g_addN ex92 Ey rfl
                show GW SM E _ 95 [some (.ref (e_ad E 0)), some (.int m), some (.int q), some (.int x27), some (.int be), some (.int mo), some (.int x92), some (.int x55)] [] s55
                refine G_goto C 38 dX11_begin_95 rfl ?_
                refine G_drop (L' := [some (.ref (e_ad E 0)), some (.int m), some (.int q), some (.int x27), some (.int be), some (.int mo), some (.int x92), none]) ⟨rfl, rfl, rfl, rfl, rfl, rfl, rfl, trivial⟩ ?_
                exact ih38 (k + 1) (nI k) be mo x92 s55 (g_cn (a := (k + 1)) Nx92 (by first | rfl | omega | (simp only [List.length_cons, List.length_drop]; done) | (simp only [List.length_cons, List.length_drop]; omega))) (by omega) (by rw [b_m, if_neg (by have z := c64; rw [hf, hm] at z; exact z)]; exact hm) (by rw [b_b, if_neg (by have z := c64; rw [hf, hm] at z; exact z)]; exact hb) fn_2 (i_2) (by omega)
              ·
                exact absurd c80 c64
            ·
              refine G_iload C 69 dX11_begin_67 rfl rfl ?_
              refine G_goto C 74 dX11_begin_69 rfl ?_
              refine G_istore (L' := [some (.ref (e_ad E 0)), some (.int m), some (.int q), some (.int x27), some (.int y), some (.int mo), some (.int y), some (.int x55)]) C 76 dX11_begin_74 rfl (Nat.le_of_ble_eq_true rfl) rfl rfl ?_
              refine G_iload C 78 dX11_begin_76 rfl rfl ?_
              refine G_iload C 80 dX11_begin_78 rfl rfl ?_
              refine G_icmp_le C 88 83 dX11_begin_80 rfl rfl (fun c80 => ?_) (fun c80 => ?_)
              ·
                exact absurd c64 c80
              ·
                refine G_iload C 85 dX11_begin_83 rfl rfl ?_
                refine G_goto C 90 dX11_begin_85 rfl ?_
                refine G_istore (L' := [some (.ref (e_ad E 0)), some (.int m), some (.int q), some (.int x27), some (.int y), some (.int x55), some (.int y), some (.int x55)]) C 92 dX11_begin_90 rfl (Nat.le_of_ble_eq_true rfl) rfl rfl ?_
                refine G_iinc (w := 1) C 95 dX11_begin_92 rfl rfl rfl rfl (fun x92 ex92 => ?_)
                have Nx92 : x92 = nI (k + 1) := g_addN ex92 Ey rfl
                show GW SM E _ 95 [some (.ref (e_ad E 0)), some (.int m), some (.int q), some (.int x27), some (.int y), some (.int x55), some (.int x92), some (.int x55)] [] s55
                refine G_goto C 38 dX11_begin_95 rfl ?_
                refine G_drop (L' := [some (.ref (e_ad E 0)), some (.int m), some (.int q), some (.int x27), some (.int y), some (.int x55), some (.int x92), none]) ⟨rfl, rfl, rfl, rfl, rfl, rfl, rfl, trivial⟩ ?_
                exact ih38 (k + 1) (nI k) y x55 x92 s55 (g_cn (a := (k + 1)) Nx92 (by first | rfl | omega | (simp only [List.length_cons, List.length_drop]; done) | (simp only [List.length_cons, List.length_drop]; omega))) (by omega) (by rw [b_m, if_pos (by have z := c64; rw [hf, hm] at z; exact z)]; exact hf) (by rw [b_b, if_pos (by have z := c64; rw [hf, hm] at z; exact z)]; exact Ey) fn_2 (i_2) (by omega)
      exact L38 (9 + 1) 0 (P 0 1) (-1) (-1) 0 s (g_cn (a := 0) rfl (by first | rfl | omega)) (by omega) (rfl) (rfl) fn (by rw [g_up_id]; exact i) (by omega)
    ·
      have k16 := h13.symm.trans c16
      refine G_bipush (v := (-7)) C 21 dX11_begin_19 rfl rfl ?_
      exact G_iret C dX11_begin_21 (⟨⟨nT, n, l, hR⟩, by unfold s_begin; rw [if_neg k7, if_pos k16]⟩)
theorem dX11_windows_0 : decode cX11_windows 0 = .ok (.iload_n 1, 1) := by decide +kernel
theorem dX11_windows_1 : decode cX11_windows 1 = .ok (.iconst 0, 1) := by decide +kernel
theorem dX11_windows_2 : decode cX11_windows 2 = .ok (.bipush 40, 2) := by decide +kernel
theorem dX11_windows_4 : decode cX11_windows 4 = .ok (.invokestatic 78, 3) := by decide +kernel
theorem dX11_windows_7 : decode cX11_windows 7 = .ok (.ifCond .eq 12, 3) := by decide +kernel
theorem dX11_windows_10 : decode cX11_windows 10 = .ok (.iload_n 2, 1) := by decide +kernel
theorem dX11_windows_11 : decode cX11_windows 11 = .ok (.iconst 0, 1) := by decide +kernel
theorem dX11_windows_12 : decode cX11_windows 12 = .ok (.iconst 1, 1) := by decide +kernel
theorem dX11_windows_13 : decode cX11_windows 13 = .ok (.invokestatic 78, 3) := by decide +kernel
theorem dX11_windows_16 : decode cX11_windows 16 = .ok (.ifCond .ne 6, 3) := by decide +kernel
theorem dX11_windows_19 : decode cX11_windows 19 = .ok (.bipush (-7), 2) := by decide +kernel
theorem dX11_windows_21 : decode cX11_windows 21 = .ok (.ireturn, 1) := by decide +kernel
theorem dX11_windows_22 : decode cX11_windows 22 = .ok (.iconst (-1), 1) := by decide +kernel
theorem dX11_windows_23 : decode cX11_windows 23 = .ok (.istore_n 3, 1) := by decide +kernel
theorem dX11_windows_24 : decode cX11_windows 24 = .ok (.aload_n 0, 1) := by decide +kernel
theorem dX11_windows_25 : decode cX11_windows 25 = .ok (.iload_n 1, 1) := by decide +kernel
theorem dX11_windows_26 : decode cX11_windows 26 = .ok (.invokevirtual 227, 3) := by decide +kernel
theorem dX11_windows_29 : decode cX11_windows 29 = .ok (.istore 4, 2) := by decide +kernel
theorem dX11_windows_31 : decode cX11_windows 31 = .ok (.iconst 0, 1) := by decide +kernel
theorem dX11_windows_32 : decode cX11_windows 32 = .ok (.istore 5, 2) := by decide +kernel
theorem dX11_windows_34 : decode cX11_windows 34 = .ok (.iload 5, 2) := by decide +kernel
theorem dX11_windows_36 : decode cX11_windows 36 = .ok (.aload_n 0, 1) := by decide +kernel
theorem dX11_windows_37 : decode cX11_windows 37 = .ok (.getfield 75, 3) := by decide +kernel
theorem dX11_windows_40 : decode cX11_windows 40 = .ok (.if_icmp .ge 94, 3) := by decide +kernel
theorem dX11_windows_43 : decode cX11_windows 43 = .ok (.aload_n 0, 1) := by decide +kernel
theorem dX11_windows_44 : decode cX11_windows 44 = .ok (.getfield 16, 3) := by decide +kernel
theorem dX11_windows_47 : decode cX11_windows 47 = .ok (.iconst 4, 1) := by decide +kernel
theorem dX11_windows_48 : decode cX11_windows 48 = .ok (.iload 5, 2) := by decide +kernel
theorem dX11_windows_50 : decode cX11_windows 50 = .ok (.imul, 1) := by decide +kernel
theorem dX11_windows_51 : decode cX11_windows 51 = .ok (.iconst 3, 1) := by decide +kernel
theorem dX11_windows_52 : decode cX11_windows 52 = .ok (.iadd, 1) := by decide +kernel
theorem dX11_windows_53 : decode cX11_windows 53 = .ok (.iconst 1, 1) := by decide +kernel
theorem dX11_windows_54 : decode cX11_windows 54 = .ok (.aload_n 0, 1) := by decide +kernel
theorem dX11_windows_55 : decode cX11_windows 55 = .ok (.getfield 16, 3) := by decide +kernel
theorem dX11_windows_58 : decode cX11_windows 58 = .ok (.iconst 4, 1) := by decide +kernel
theorem dX11_windows_59 : decode cX11_windows 59 = .ok (.iload 5, 2) := by decide +kernel
theorem dX11_windows_61 : decode cX11_windows 61 = .ok (.imul, 1) := by decide +kernel
theorem dX11_windows_62 : decode cX11_windows 62 = .ok (.iconst 3, 1) := by decide +kernel
theorem dX11_windows_63 : decode cX11_windows 63 = .ok (.iadd, 1) := by decide +kernel
theorem dX11_windows_64 : decode cX11_windows 64 = .ok (.iaload, 1) := by decide +kernel
theorem dX11_windows_65 : decode cX11_windows 65 = .ok (.isub, 1) := by decide +kernel
theorem dX11_windows_66 : decode cX11_windows 66 = .ok (.iastore, 1) := by decide +kernel
theorem dX11_windows_67 : decode cX11_windows 67 = .ok (.aload_n 0, 1) := by decide +kernel
theorem dX11_windows_68 : decode cX11_windows 68 = .ok (.iload_n 1, 1) := by decide +kernel
theorem dX11_windows_69 : decode cX11_windows 69 = .ok (.invokevirtual 227, 3) := by decide +kernel
theorem dX11_windows_72 : decode cX11_windows 72 = .ok (.istore 6, 2) := by decide +kernel
theorem dX11_windows_74 : decode cX11_windows 74 = .ok (.aload_n 0, 1) := by decide +kernel
theorem dX11_windows_75 : decode cX11_windows 75 = .ok (.getfield 16, 3) := by decide +kernel
theorem dX11_windows_78 : decode cX11_windows 78 = .ok (.iconst 4, 1) := by decide +kernel
theorem dX11_windows_79 : decode cX11_windows 79 = .ok (.iload 5, 2) := by decide +kernel
theorem dX11_windows_81 : decode cX11_windows 81 = .ok (.imul, 1) := by decide +kernel
theorem dX11_windows_82 : decode cX11_windows 82 = .ok (.iconst 3, 1) := by decide +kernel
theorem dX11_windows_83 : decode cX11_windows 83 = .ok (.iadd, 1) := by decide +kernel
theorem dX11_windows_84 : decode cX11_windows 84 = .ok (.iconst 1, 1) := by decide +kernel
theorem dX11_windows_85 : decode cX11_windows 85 = .ok (.aload_n 0, 1) := by decide +kernel
theorem dX11_windows_86 : decode cX11_windows 86 = .ok (.getfield 16, 3) := by decide +kernel
theorem dX11_windows_89 : decode cX11_windows 89 = .ok (.iconst 4, 1) := by decide +kernel
theorem dX11_windows_90 : decode cX11_windows 90 = .ok (.iload 5, 2) := by decide +kernel
theorem dX11_windows_92 : decode cX11_windows 92 = .ok (.imul, 1) := by decide +kernel
theorem dX11_windows_93 : decode cX11_windows 93 = .ok (.iconst 3, 1) := by decide +kernel
theorem dX11_windows_94 : decode cX11_windows 94 = .ok (.iadd, 1) := by decide +kernel
theorem dX11_windows_95 : decode cX11_windows 95 = .ok (.iaload, 1) := by decide +kernel
theorem dX11_windows_96 : decode cX11_windows 96 = .ok (.isub, 1) := by decide +kernel
theorem dX11_windows_97 : decode cX11_windows 97 = .ok (.iastore, 1) := by decide +kernel
theorem dX11_windows_98 : decode cX11_windows 98 = .ok (.iload 6, 2) := by decide +kernel
theorem dX11_windows_100 : decode cX11_windows 100 = .ok (.iload 4, 2) := by decide +kernel
theorem dX11_windows_102 : decode cX11_windows 102 = .ok (.if_icmp .le 8, 3) := by decide +kernel
theorem dX11_windows_105 : decode cX11_windows 105 = .ok (.iload 5, 2) := by decide +kernel
theorem dX11_windows_107 : decode cX11_windows 107 = .ok (.goto 4, 3) := by decide +kernel
theorem dX11_windows_110 : decode cX11_windows 110 = .ok (.iload_n 3, 1) := by decide +kernel
theorem dX11_windows_111 : decode cX11_windows 111 = .ok (.istore_n 3, 1) := by decide +kernel
theorem dX11_windows_112 : decode cX11_windows 112 = .ok (.iload 6, 2) := by decide +kernel
theorem dX11_windows_114 : decode cX11_windows 114 = .ok (.iload 4, 2) := by decide +kernel
theorem dX11_windows_116 : decode cX11_windows 116 = .ok (.if_icmp .le 8, 3) := by decide +kernel
theorem dX11_windows_119 : decode cX11_windows 119 = .ok (.iload 6, 2) := by decide +kernel
theorem dX11_windows_121 : decode cX11_windows 121 = .ok (.goto 5, 3) := by decide +kernel
theorem dX11_windows_124 : decode cX11_windows 124 = .ok (.iload 4, 2) := by decide +kernel
theorem dX11_windows_126 : decode cX11_windows 126 = .ok (.istore 4, 2) := by decide +kernel
theorem dX11_windows_128 : decode cX11_windows 128 = .ok (.iinc 5 1, 3) := by decide +kernel
theorem dX11_windows_131 : decode cX11_windows 131 = .ok (.goto (-97), 3) := by decide +kernel
theorem dX11_windows_134 : decode cX11_windows 134 = .ok (.iload_n 2, 1) := by decide +kernel
theorem dX11_windows_135 : decode cX11_windows 135 = .ok (.ifCond .ne 7, 3) := by decide +kernel
theorem dX11_windows_138 : decode cX11_windows 138 = .ok (.iload_n 3, 1) := by decide +kernel
theorem dX11_windows_139 : decode cX11_windows 139 = .ok (.goto 5, 3) := by decide +kernel
theorem dX11_windows_142 : decode cX11_windows 142 = .ok (.iload 4, 2) := by decide +kernel
theorem dX11_windows_144 : decode cX11_windows 144 = .ok (.ireturn, 1) := by decide +kernel
set_option maxHeartbeats 4000000 in
set_option maxRecDepth 100000 in
theorem c_X11_windows (d : Nat) (TX : gTX) (P B s : gS) (hR0 : RM TX P B s) (m q : Int32) : gMt SM yX11_windows cX11_windows 7 (some .int) (d + 12) (fun ad => [.ref (ad 0), .int m, .int q]) s (gQi SM (fun r s' => RM TX P B s' ∧ r = s_wind TX P m q)) := by
  obtain ⟨nT, n, l, hR⟩ := hR0
  have hI := hR.1
  have hn6 : n ≤ 6 := hI.2.1.2.1
  have hl6 : l < 6 := mI_l6 hI
  have hxn : x_n P = n := x_nOf hI.2.1.1 hn6
  have hbI := hR.2.2
  have hnT6 : nT ≤ 6 := hI.2.1.2.2.2.2.1
  obtain ⟨tn0, htn0, etn0⟩ := hbI.2.1
  refine gMt_of SM_ok (by decide +kernel) (fun ad => [some (.ref (ad 0)), some (.int m), some (.int q), none, none, none, none]) (fun _ => rfl) (fun _ => rfl) (fun _ => Nat.le_of_ble_eq_true rfl) (fun E C0 => ?_)
  have C : gCx SM E RX11 cX11_windows 7 (some .int) (d + 12) := C0
  have fn : Qn s s := Qn.rf
  have i : mI TX nT n l P s := hI
  refine G_iload_n (i := 1) C 1 dX11_windows_0 rfl rfl rfl ?_
  refine G_iconst (v := 0) C 2 dX11_windows_1 rfl rfl ?_
  refine G_bipush (v := 40) C 4 dX11_windows_2 rfl rfl ?_
  refine G_calli 7 (G_runS C Kc_X11_in KS_X11_78 (by omega) (c_X11_in 0 m 0 40 s) rfl rfl (Nat.le_of_ble_eq_true rfl) rfl dX11_windows_4) rfl (fun x4 s4 h4 => ?_)
  obtain ⟨es4, h4⟩ := h4
  have es4 := es4.symm
  subst es4
  refine G_if_eq C 19 10 dX11_windows_7 rfl rfl (fun c7 => ?_) (fun c7 => ?_)
  ·
    have k7 := h4.symm.trans c7
    refine G_bipush (v := (-7)) C 21 dX11_windows_19 rfl rfl ?_
    exact G_iret C dX11_windows_21 (⟨⟨nT, n, l, hR⟩, by unfold s_wind; rw [if_pos k7]⟩)
  ·
    have k7 := g_neT h4 c7
    obtain ⟨um, hum, eum⟩ := x_inR (b := 40) k7 rfl (by decide)
    have cum : m.toNatClampNeg = um := by rw [eum, nI_clamp (by omega)]
    refine G_iload_n (i := 2) C 11 dX11_windows_10 rfl rfl rfl ?_
    refine G_iconst (v := 0) C 12 dX11_windows_11 rfl rfl ?_
    refine G_iconst (v := 1) C 13 dX11_windows_12 rfl rfl ?_
    refine G_calli 16 (G_runS C Kc_X11_in KS_X11_78 (by omega) (c_X11_in 0 q 0 1 s) rfl rfl (Nat.le_of_ble_eq_true rfl) rfl dX11_windows_13) rfl (fun x13 s13 h13 => ?_)
    obtain ⟨es13, h13⟩ := h13
    have es13 := es13.symm
    subst es13
    refine G_if_ne C 22 19 dX11_windows_16 rfl rfl (fun c16 => ?_) (fun c16 => ?_)
    ·
      have k16 := g_neT h13 c16
      refine G_iconst (v := (-1)) C 23 dX11_windows_22 rfl rfl ?_
      refine G_istore_n (i := 3) (L' := [some (.ref (e_ad E 0)), some (.int m), some (.int q), some (.int (-1)), none, none, none]) C 24 dX11_windows_23 rfl rfl (Nat.le_of_ble_eq_true rfl) rfl rfl ?_
      refine G_aload_n (i := 0) C 25 dX11_windows_24 rfl rfl rfl ?_
      refine G_iload_n (i := 1) C 26 dX11_windows_25 rfl rfl rfl ?_
      refine G_calli 29 (G_runV C Kc_X11_criedIn KV_X11_227 (by omega) (by decide) (eM _ _ _) rfl (c_X11_criedIn 0 TX nT n l P s i m um eum (by omega)) rfl rfl rfl (Nat.le_of_ble_eq_true rfl) rfl dX11_windows_26) rfl (fun x26 s26 h26 => ?_)
      have fn_1 : Qn s s26 := Qn.tr fn (h26.1.KR)
      have i_1 : mI TX nT n l P s26 := h26.2.1
      refine G_istore (L' := [some (.ref (e_ad E 0)), some (.int m), some (.int q), some (.int (-1)), some (.int x26), none, none]) C 31 dX11_windows_29 rfl (Nat.le_of_ble_eq_true rfl) rfl rfl ?_
      refine G_iconst (v := 0) C 32 dX11_windows_31 rfl rfl ?_
      refine G_istore (L' := [some (.ref (e_ad E 0)), some (.int m), some (.int q), some (.int (-1)), some (.int x26), some (.int 0), none]) C 34 dX11_windows_32 rfl (Nat.le_of_ble_eq_true rfl) rfl rfl ?_
      have L34 : ∀ (f34 : Nat) (k : Nat) (be mo y : Int32) (sl34 : gS) (Ey : y = nI k) (hk : k ≤ n) (hm : mo = b_m (fun p => x_cr TX um (g_up P 5 p (1 - P 5 p))) (x_cr TX um P) k) (hb : be = b_b (fun p => x_cr TX um (g_up P 5 p (1 - P 5 p))) (x_cr TX um P) k) (fnl34 : Qn s sl34) (il34 : mI TX nT n l P sl34), n < k + f34 → GW SM E (gFin SM E (gQi SM (fun r s' => RM TX P B s' ∧ r = s_wind TX P m q))) 34 [some (.ref (e_ad E 0)), some (.int m), some (.int q), some (.int be), some (.int mo), some (.int y), none] [] sl34 := by
        intro f34
        induction f34 with
        | zero =>
          intro k be mo y sl34 Ey hk hm hb fnl34 il34 hf34
          exact absurd hf34 (by omega)
        | succ f34 ih34 =>
          intro k be mo y sl34 Ey hk hm hb fnl34 il34 hf34
          refine G_iload C 36 dX11_windows_34 rfl rfl ?_
          refine G_aload_n (i := 0) C 37 dX11_windows_36 rfl rfl rfl ?_
          refine X11_75g C 40 dX11_windows_37 rfl (fun x37 ex37 => ?_)
          have Sx37 : x37 = nI n := ex37.trans (mI_n il34)
          refine G_icmp_ge C 134 43 dX11_windows_40 rfl rfl (fun c40 => ?_) (fun c40 => ?_)
          ·
            have n40 : ¬ k < n := fun h => c40 ((g_ltN (a := k) (b := n) (hx := Ey) (hy := Sx37) (by omega) (by omega)).mpr h)
            refine G_iload_n (i := 2) C 135 dX11_windows_134 rfl rfl rfl ?_
            refine G_if_ne C 142 138 dX11_windows_135 rfl rfl (fun c135 => ?_) (fun c135 => ?_)
            ·
              refine G_iload C 144 dX11_windows_142 rfl rfl ?_
              exact G_iret C dX11_windows_144 (⟨RM_i hR il34 fnl34, by
                  have e : k = n := by omega
                  subst e
                  unfold s_wind; rw [if_neg k7, if_neg k16, cum, hxn, if_neg c135]; exact hm⟩)
            ·
              refine G_iload_n (i := 3) C 139 dX11_windows_138 rfl rfl rfl ?_
              refine G_goto C 144 dX11_windows_139 rfl ?_
              exact G_iret C dX11_windows_144 (⟨RM_i hR il34 fnl34, by
                  have e : k = n := by omega
                  subst e
                  unfold s_wind; rw [if_neg k7, if_neg k16, cum, hxn, if_pos c135]; exact hb⟩)
          ·
            have n40 : k < n := (g_ltN (a := k) (b := n) (hx := Ey) (hy := Sx37) (by omega) (by omega)).mp c40
            refine G_aload_n (i := 0) C 44 dX11_windows_43 rfl rfl rfl ?_
            refine X11_16g C 47 dX11_windows_44 rfl ?_
            refine G_iconst (v := 4) C 48 dX11_windows_47 rfl rfl ?_
            refine G_iload C 50 dX11_windows_48 rfl rfl ?_
            refine G_imul C 51 dX11_windows_50 rfl (fun x50 ex50 => ?_)
            have Nx50 : x50 = nI (4 * k) := g_mulN ex50 rfl Ey
            refine G_iconst (v := 3) C 52 dX11_windows_51 rfl rfl ?_
            refine G_iadd C 53 dX11_windows_52 rfl (fun x52 ex52 => ?_)
            have Nx52 : x52 = nI ((4 * k) + 3) := g_addN ex52 Nx50 rfl
            refine G_iconst (v := 1) C 54 dX11_windows_53 rfl rfl ?_
            refine G_aload_n (i := 0) C 55 dX11_windows_54 rfl rfl rfl ?_
            refine X11_16g C 58 dX11_windows_55 rfl ?_
            refine G_iconst (v := 4) C 59 dX11_windows_58 rfl rfl ?_
            refine G_iload C 61 dX11_windows_59 rfl rfl ?_
            refine G_imul C 62 dX11_windows_61 rfl (fun x61 ex61 => ?_)
            have Nx61 : x61 = nI (4 * k) := g_mulN ex61 rfl Ey
            refine G_iconst (v := 3) C 63 dX11_windows_62 rfl rfl ?_
            refine G_iadd C 64 dX11_windows_63 rfl (fun x63 ex63 => ?_)
            have Nx63 : x63 = nI ((4 * k) + 3) := g_addN ex63 Nx61 rfl
            refine G_iald (n := 24) C 65 (by decide) (eMk (by decide) _ _ _) (((4 * k) + 3)) Nx63 (by omega) (by decide) dX11_windows_64 rfl (fun x64 ex64 => ?_)
            have Sx64 : x64 = P 5 k := ex64.trans (congrFun (congrFun il34.1 5) k)
            refine G_isub C 66 dX11_windows_65 rfl (fun x65 ex65 => ?_)
            refine G_iast (n := 24) C 67 (by decide) (fun σ => eMk (by decide) _ _ σ) (((4 * k) + 3)) Nx52 (by omega) (by decide) (Nat.le_refl _) dX11_windows_66 rfl (fun s66 es66 => ?_)
            have fn_2 : Qn s s66 := Qn.tr fnl34 ((Qm.up es66 (by unfold mR; omega)).n)
            have i_2 : mI TX nT n l (g_up P 5 k (1 - P 5 k)) s66 := by have z := mI_up5 il34 es66; rw [ex65, Sx64] at z; exact z
            refine G_aload_n (i := 0) C 68 dX11_windows_67 rfl rfl rfl ?_
            refine G_iload_n (i := 1) C 69 dX11_windows_68 rfl rfl rfl ?_
            refine G_calli 72 (G_runV C Kc_X11_criedIn KV_X11_227 (by omega) (by decide) (eM _ _ _) rfl (c_X11_criedIn 0 TX nT n l (g_up P 5 k (1 - P 5 k)) s66 i_2 m um eum (by omega)) rfl rfl rfl (Nat.le_of_ble_eq_true rfl) rfl dX11_windows_69) rfl (fun x69 s69 h69 => ?_)
            have fn_3 : Qn s s69 := Qn.tr fn_2 (h69.1.KR)
            have i_3 : mI TX nT n l (g_up P 5 k (1 - P 5 k)) s69 := h69.2.1
            have hf : x69 = (fun p => x_cr TX um (g_up P 5 p (1 - P 5 p))) k := h69.2.2
            refine G_istore (L' := [some (.ref (e_ad E 0)), some (.int m), some (.int q), some (.int be), some (.int mo), some (.int y), some (.int x69)]) C 74 dX11_windows_72 rfl (Nat.le_of_ble_eq_true rfl) rfl rfl ?_
            refine G_aload_n (i := 0) C 75 dX11_windows_74 rfl rfl rfl ?_
            refine X11_16g C 78 dX11_windows_75 rfl ?_
            refine G_iconst (v := 4) C 79 dX11_windows_78 rfl rfl ?_
            refine G_iload C 81 dX11_windows_79 rfl rfl ?_
            refine G_imul C 82 dX11_windows_81 rfl (fun x81 ex81 => ?_)
            have Nx81 : x81 = nI (4 * k) := g_mulN ex81 rfl Ey
            refine G_iconst (v := 3) C 83 dX11_windows_82 rfl rfl ?_
            refine G_iadd C 84 dX11_windows_83 rfl (fun x83 ex83 => ?_)
            have Nx83 : x83 = nI ((4 * k) + 3) := g_addN ex83 Nx81 rfl
            refine G_iconst (v := 1) C 85 dX11_windows_84 rfl rfl ?_
            refine G_aload_n (i := 0) C 86 dX11_windows_85 rfl rfl rfl ?_
            refine X11_16g C 89 dX11_windows_86 rfl ?_
            refine G_iconst (v := 4) C 90 dX11_windows_89 rfl rfl ?_
            refine G_iload C 92 dX11_windows_90 rfl rfl ?_
            refine G_imul C 93 dX11_windows_92 rfl (fun x92 ex92 => ?_)
            have Nx92 : x92 = nI (4 * k) := g_mulN ex92 rfl Ey
            refine G_iconst (v := 3) C 94 dX11_windows_93 rfl rfl ?_
            refine G_iadd C 95 dX11_windows_94 rfl (fun x94 ex94 => ?_)
            have Nx94 : x94 = nI ((4 * k) + 3) := g_addN ex94 Nx92 rfl
            refine G_iald (n := 24) C 96 (by decide) (eMk (by decide) _ _ _) (((4 * k) + 3)) Nx94 (by omega) (by decide) dX11_windows_95 rfl (fun x95 ex95 => ?_)
            have Sx95 : x95 = (g_up P 5 k (1 - P 5 k)) 5 k := ex95.trans (congrFun (congrFun i_3.1 5) k)
            refine G_isub C 97 dX11_windows_96 rfl (fun x96 ex96 => ?_)
            refine G_iast (n := 24) C 98 (by decide) (fun σ => eMk (by decide) _ _ σ) (((4 * k) + 3)) Nx83 (by omega) (by decide) (Nat.le_refl _) dX11_windows_97 rfl (fun s97 es97 => ?_)
            have fn_4 : Qn s s97 := Qn.tr fn_3 ((Qm.up es97 (by unfold mR; omega)).n)
            have i_4 : mI TX nT n l P s97 := by have z := mI_up5 i_3 es97; rw [ex96, Sx95, g_up_sj, if_pos rfl, g_up2, i_sub1, g_up_id] at z; exact z
            refine G_iload C 100 dX11_windows_98 rfl rfl ?_
            refine G_iload C 102 dX11_windows_100 rfl rfl ?_
            refine G_icmp_le C 110 105 dX11_windows_102 rfl rfl (fun c102 => ?_) (fun c102 => ?_)
            ·
              refine G_iload_n (i := 3) C 111 dX11_windows_110 rfl rfl rfl ?_
              refine G_istore_n (i := 3) (L' := [some (.ref (e_ad E 0)), some (.int m), some (.int q), some (.int be), some (.int mo), some (.int y), some (.int x69)]) C 112 dX11_windows_111 rfl rfl (Nat.le_of_ble_eq_true rfl) rfl rfl ?_
              refine G_iload C 114 dX11_windows_112 rfl rfl ?_
              refine G_iload C 116 dX11_windows_114 rfl rfl ?_
              refine G_icmp_le C 124 119 dX11_windows_116 rfl rfl (fun c116 => ?_) (fun c116 => ?_)
              ·
                refine G_iload C 126 dX11_windows_124 rfl rfl ?_
                refine G_istore (L' := [some (.ref (e_ad E 0)), some (.int m), some (.int q), some (.int be), some (.int mo), some (.int y), some (.int x69)]) C 128 dX11_windows_126 rfl (Nat.le_of_ble_eq_true rfl) rfl rfl ?_
                refine G_iinc (w := 1) C 131 dX11_windows_128 rfl rfl rfl rfl (fun x128 ex128 => ?_)
                have Nx128 : x128 = nI (k + 1) := g_addN ex128 Ey rfl
                show GW SM E _ 131 [some (.ref (e_ad E 0)), some (.int m), some (.int q), some (.int be), some (.int mo), some (.int x128), some (.int x69)] [] s97
                refine G_goto C 34 dX11_windows_131 rfl ?_
                refine G_drop (L' := [some (.ref (e_ad E 0)), some (.int m), some (.int q), some (.int be), some (.int mo), some (.int x128), none]) ⟨rfl, rfl, rfl, rfl, rfl, rfl, trivial⟩ ?_
                exact ih34 (k + 1) be mo x128 s97 (g_cn (a := (k + 1)) Nx128 (by first | rfl | omega | (simp only [List.length_cons, List.length_drop]; done) | (simp only [List.length_cons, List.length_drop]; omega))) (by omega) (by rw [b_m, if_neg (by have z := c102; rw [hf, hm] at z; exact z)]; exact hm) (by rw [b_b, if_neg (by have z := c102; rw [hf, hm] at z; exact z)]; exact hb) fn_4 i_4 (by omega)
              ·
                exact absurd c116 c102
            ·
              refine G_iload C 107 dX11_windows_105 rfl rfl ?_
              refine G_goto C 111 dX11_windows_107 rfl ?_
              refine G_istore_n (i := 3) (L' := [some (.ref (e_ad E 0)), some (.int m), some (.int q), some (.int y), some (.int mo), some (.int y), some (.int x69)]) C 112 dX11_windows_111 rfl rfl (Nat.le_of_ble_eq_true rfl) rfl rfl ?_
              refine G_iload C 114 dX11_windows_112 rfl rfl ?_
              refine G_iload C 116 dX11_windows_114 rfl rfl ?_
              refine G_icmp_le C 124 119 dX11_windows_116 rfl rfl (fun c116 => ?_) (fun c116 => ?_)
              ·
                exact absurd c102 c116
              ·
                refine G_iload C 121 dX11_windows_119 rfl rfl ?_
                refine G_goto C 126 dX11_windows_121 rfl ?_
                refine G_istore (L' := [some (.ref (e_ad E 0)), some (.int m), some (.int q), some (.int y), some (.int x69), some (.int y), some (.int x69)]) C 128 dX11_windows_126 rfl (Nat.le_of_ble_eq_true rfl) rfl rfl ?_
                refine G_iinc (w := 1) C 131 dX11_windows_128 rfl rfl rfl rfl (fun x128 ex128 => ?_)
                have Nx128 : x128 = nI (k + 1) := g_addN ex128 Ey rfl
                show GW SM E _ 131 [some (.ref (e_ad E 0)), some (.int m), some (.int q), some (.int y), some (.int x69), some (.int x128), some (.int x69)] [] s97
                refine G_goto C 34 dX11_windows_131 rfl ?_
                refine G_drop (L' := [some (.ref (e_ad E 0)), some (.int m), some (.int q), some (.int y), some (.int x69), some (.int x128), none]) ⟨rfl, rfl, rfl, rfl, rfl, rfl, trivial⟩ ?_
                exact ih34 (k + 1) y x69 x128 s97 (g_cn (a := (k + 1)) Nx128 (by first | rfl | omega | (simp only [List.length_cons, List.length_drop]; done) | (simp only [List.length_cons, List.length_drop]; omega))) (by omega) (by rw [b_m, if_pos (by have z := c102; rw [hf, hm] at z; exact z)]; exact hf) (by rw [b_b, if_pos (by have z := c102; rw [hf, hm] at z; exact z)]; exact Ey) fn_4 i_4 (by omega)
      exact L34 (n + 1) 0 (-1) x26 0 s26 (g_cn (a := 0) rfl (by first | rfl | omega)) (by omega) (h26.2.2) (rfl) fn_1 i_1 (by omega)
    ·
      have k16 := h13.symm.trans c16
      refine G_bipush (v := (-7)) C 21 dX11_windows_19 rfl rfl ?_
      exact G_iret C dX11_windows_21 (⟨⟨nT, n, l, hR⟩, by unfold s_wind; rw [if_neg k7, if_pos k16]⟩)
theorem dX11_lowest_0 : decode cX11_lowest 0 = .ok (.lload_n 0, 1) := by decide +kernel
theorem dX11_lowest_1 : decode cX11_lowest 1 = .ok (.lconst 0, 1) := by decide +kernel
theorem dX11_lowest_2 : decode cX11_lowest 2 = .ok (.lcmp, 1) := by decide +kernel
theorem dX11_lowest_3 : decode cX11_lowest 3 = .ok (.ifCond .ne 7, 3) := by decide +kernel
theorem dX11_lowest_6 : decode cX11_lowest 6 = .ok (.iload 4, 2) := by decide +kernel
theorem dX11_lowest_8 : decode cX11_lowest 8 = .ok (.i2l, 1) := by decide +kernel
theorem dX11_lowest_9 : decode cX11_lowest 9 = .ok (.lreturn, 1) := by decide +kernel
theorem dX11_lowest_10 : decode cX11_lowest 10 = .ok (.lload_n 0, 1) := by decide +kernel
theorem dX11_lowest_11 : decode cX11_lowest 11 = .ok (.lstore 5, 2) := by decide +kernel
theorem dX11_lowest_13 : decode cX11_lowest 13 = .ok (.lload_n 2, 1) := by decide +kernel
theorem dX11_lowest_14 : decode cX11_lowest 14 = .ok (.lstore 7, 2) := by decide +kernel
theorem dX11_lowest_16 : decode cX11_lowest 16 = .ok (.lload 7, 2) := by decide +kernel
theorem dX11_lowest_18 : decode cX11_lowest 18 = .ok (.lconst 0, 1) := by decide +kernel
theorem dX11_lowest_19 : decode cX11_lowest 19 = .ok (.lcmp, 1) := by decide +kernel
theorem dX11_lowest_20 : decode cX11_lowest 20 = .ok (.ifCond .eq 21, 3) := by decide +kernel
theorem dX11_lowest_23 : decode cX11_lowest 23 = .ok (.lload 5, 2) := by decide +kernel
theorem dX11_lowest_25 : decode cX11_lowest 25 = .ok (.lload 7, 2) := by decide +kernel
theorem dX11_lowest_27 : decode cX11_lowest 27 = .ok (.lrem, 1) := by decide +kernel
theorem dX11_lowest_28 : decode cX11_lowest 28 = .ok (.lstore 9, 2) := by decide +kernel
theorem dX11_lowest_30 : decode cX11_lowest 30 = .ok (.lload 7, 2) := by decide +kernel
theorem dX11_lowest_32 : decode cX11_lowest 32 = .ok (.lstore 5, 2) := by decide +kernel
theorem dX11_lowest_34 : decode cX11_lowest 34 = .ok (.lload 9, 2) := by decide +kernel
theorem dX11_lowest_36 : decode cX11_lowest 36 = .ok (.lstore 7, 2) := by decide +kernel
theorem dX11_lowest_38 : decode cX11_lowest 38 = .ok (.goto (-22), 3) := by decide +kernel
theorem dX11_lowest_41 : decode cX11_lowest 41 = .ok (.iload 4, 2) := by decide +kernel
theorem dX11_lowest_43 : decode cX11_lowest 43 = .ok (.ifCond .ne 7, 3) := by decide +kernel
theorem dX11_lowest_46 : decode cX11_lowest 46 = .ok (.lload_n 0, 1) := by decide +kernel
theorem dX11_lowest_47 : decode cX11_lowest 47 = .ok (.goto 4, 3) := by decide +kernel
theorem dX11_lowest_50 : decode cX11_lowest 50 = .ok (.lload_n 2, 1) := by decide +kernel
theorem dX11_lowest_51 : decode cX11_lowest 51 = .ok (.lload 5, 2) := by decide +kernel
theorem dX11_lowest_53 : decode cX11_lowest 53 = .ok (.ldiv, 1) := by decide +kernel
theorem dX11_lowest_54 : decode cX11_lowest 54 = .ok (.lreturn, 1) := by decide +kernel
set_option maxHeartbeats 4000000 in
set_option maxRecDepth 100000 in
theorem c_X11_lowest (d na nb : Nat) (ha : na ≤ 2000) (hb1 : 1 ≤ nb) (hb : nb ≤ 40) (a b : Int64) (q : Int32) (ea : a = lN na) (eb : b = lN nb) (hq : q = 0 ∨ q = 1) (s : gS) : gMt SM yX11_lowest cX11_lowest 11 (some .long) (d + 1) (fun ad => [.long a, .long b, .int q]) s (gQl SM (fun r s' => s' = s ∧ r = x_lowest na nb q)) := by
  refine gMt_of SM_ok (by decide +kernel) (fun ad => [some (.long a), none, some (.long b), none, some (.int q), none, none, none, none, none, none]) (fun _ => rfl) (fun _ => rfl) (fun _ => Nat.le_of_ble_eq_true rfl) (fun E C0 => ?_)
  have C : gCx SM E RX11 cX11_lowest 11 (some .long) (d + 1) := C0
  refine G_lload_n (i := 0) C 1 dX11_lowest_0 rfl rfl rfl ?_
  refine G_lconst (v := 0) C 2 dX11_lowest_1 rfl rfl ?_
  refine G_lcmp C 3 dX11_lowest_2 rfl (fun x2 ex2 => ?_)
  refine G_if_ne C 10 6 dX11_lowest_3 rfl rfl (fun c3 => ?_) (fun c3 => ?_)
  ·
    refine G_lload_n (i := 0) C 11 dX11_lowest_10 rfl rfl rfl ?_
    refine G_lstore (L' := [some (.long a), none, some (.long b), none, some (.int q), some (.long a), none, none, none, none, none]) C 13 dX11_lowest_11 rfl (Nat.le_of_ble_eq_true rfl) rfl rfl ?_
    refine G_lload_n (i := 2) C 14 dX11_lowest_13 rfl rfl rfl ?_
    refine G_lstore (L' := [some (.long a), none, some (.long b), none, some (.int q), some (.long a), none, some (.long b), none, none, none]) C 16 dX11_lowest_14 rfl (Nat.le_of_ble_eq_true rfl) rfl rfl ?_
    have L16 : ∀ (f16 : Nat) (k c r : Nat) (ya : Int64) (yb : Int64) (Eya : ya = lN c) (Eyb : yb = lN r) (hc : c ≤ 2000) (hr : r + k ≤ nb) (hg : Nat.gcd c r = Nat.gcd na nb), nb < k + f16 → GW SM E (gFin SM E (gQl SM (fun r s' => s' = s ∧ r = x_lowest na nb q))) 16 [some (.long a), none, some (.long b), none, some (.int q), some (.long ya), none, some (.long yb), none, none, none] [] s := by
      intro f16
      induction f16 with
      | zero =>
        intro k c r ya yb Eya Eyb hc hr hg hf16
        exact absurd hf16 (by omega)
      | succ f16 ih16 =>
        intro k c r ya yb Eya Eyb hc hr hg hf16
        refine G_lload C 18 dX11_lowest_16 rfl rfl ?_
        refine G_lconst (v := 0) C 19 dX11_lowest_18 rfl rfl ?_
        refine G_lcmp C 20 dX11_lowest_19 rfl (fun x19 ex19 => ?_)
        refine G_if_eq C 41 23 dX11_lowest_20 rfl rfl (fun c20 => ?_) (fun c20 => ?_)
        ·
          have hr0 : r = 0 := (lN_eq (by omega) (by omega)).mp (Eyb.symm.trans ((lg_cmp_eq _ _).mp (ex19.symm.trans c20)))
          have hgc : c = Nat.gcd na nb := by rw [← hg, hr0, Nat.gcd_zero_right]
          have hc0 : ¬ c = 0 := by rw [hgc]; exact Nat.pos_iff_ne_zero.mp (Nat.gcd_pos_of_pos_right _ hb1)
          refine G_iload C 43 dX11_lowest_41 rfl rfl ?_
          refine G_if_ne C 50 46 dX11_lowest_43 rfl rfl (fun c43 => ?_) (fun c43 => ?_)
          ·
            refine G_lload_n (i := 2) C 51 dX11_lowest_50 rfl rfl rfl ?_
            refine G_lload C 53 dX11_lowest_51 rfl rfl ?_
            refine G_ldiv C 54 dX11_lowest_53 rfl (fun z => hc0 ((lN_eq (by omega) (by omega)).mp (Eya.symm.trans (z.trans fa_litL_0)))) (fun x53 ex53 => ?_)
            exact G_lret C dX11_lowest_54 (⟨rfl, by
                have z := l_divN ex53 eb Eya (by omega) (by omega) (by omega)
                rw [z, hgc, ← nI_l (by have := Nat.div_le_self nb (Nat.gcd na nb); omega)]
                unfold x_lowest
                rw [if_neg c43]⟩)
          ·
            refine G_lload_n (i := 0) C 47 dX11_lowest_46 rfl rfl rfl ?_
            refine G_goto C 51 dX11_lowest_47 rfl ?_
            refine G_lload C 53 dX11_lowest_51 rfl rfl ?_
            refine G_ldiv C 54 dX11_lowest_53 rfl (fun z => hc0 ((lN_eq (by omega) (by omega)).mp (Eya.symm.trans (z.trans fa_litL_0)))) (fun x53 ex53 => ?_)
            exact G_lret C dX11_lowest_54 (⟨rfl, by
                have z := l_divN ex53 ea Eya (by omega) (by omega) (by omega)
                rw [z, hgc, ← nI_l (by have := Nat.div_le_self na (Nat.gcd na nb); omega)]
                unfold x_lowest
                rw [if_pos c43]⟩)
        ·
          have hyb : ¬ yb = lN 0 := fun z => c20 (ex19.trans ((lg_cmp_eq _ _).mpr z))
          have hr0 : 0 < r := Nat.pos_of_ne_zero (fun z => hyb (by rw [Eyb, z]))
          refine G_lload C 25 dX11_lowest_23 rfl rfl ?_
          refine G_lload C 27 dX11_lowest_25 rfl rfl ?_
          refine G_lrem C 28 dX11_lowest_27 rfl (fun z => hyb (z.trans fa_litL_0)) (fun x27 ex27 => ?_)
          have Nx27 : x27 = lN (c % r) := l_remN ex27 Eya Eyb (by omega) (by omega) (by omega)
          refine G_lstore (L' := [some (.long a), none, some (.long b), none, some (.int q), some (.long ya), none, some (.long yb), none, some (.long x27), none]) C 30 dX11_lowest_28 rfl (Nat.le_of_ble_eq_true rfl) rfl rfl ?_
          refine G_lload C 32 dX11_lowest_30 rfl rfl ?_
          refine G_lstore (L' := [some (.long a), none, some (.long b), none, some (.int q), some (.long yb), none, some (.long yb), none, some (.long x27), none]) C 34 dX11_lowest_32 rfl (Nat.le_of_ble_eq_true rfl) rfl rfl ?_
          refine G_lload C 36 dX11_lowest_34 rfl rfl ?_
          refine G_lstore (L' := [some (.long a), none, some (.long b), none, some (.int q), some (.long yb), none, some (.long x27), none, some (.long x27), none]) C 38 dX11_lowest_36 rfl (Nat.le_of_ble_eq_true rfl) rfl rfl ?_
          refine G_goto C 16 dX11_lowest_38 rfl ?_
          refine G_drop (L' := [some (.long a), none, some (.long b), none, some (.int q), some (.long yb), none, some (.long x27), none, none, none]) ⟨rfl, rfl, rfl, rfl, rfl, trivial⟩ ?_
          exact ih16 (k + 1) r (c % r) yb x27  (l_cn (a := r) Eyb (by first | rfl | omega | (simp only [List.length_cons, List.length_drop]; done) | (simp only [List.length_cons, List.length_drop]; omega))) (l_cn (a := (c % r)) Nx27 (by first | rfl | omega | (simp only [List.length_cons, List.length_drop]; done) | (simp only [List.length_cons, List.length_drop]; omega))) (by omega) (by have := Nat.mod_lt c hr0; omega) (by rw [← hg, Nat.gcd_comm c r, Nat.gcd_rec r c, Nat.gcd_comm]) (by omega)
    exact L16 (nb + 1) 0 na nb a b  (l_cn (a := na) ea (by first | rfl | omega)) (l_cn (a := nb) eb (by first | rfl | omega)) (by omega) (by omega) (rfl) (by omega)
  ·
    have hna : na = 0 := (lN_eq (by omega) (by omega)).mp (ea.symm.trans ((lg_cmp_eq _ _).mp (ex2.symm.trans c3)))
    refine G_iload C 8 dX11_lowest_6 rfl rfl ?_
    refine G_i2l C 9 dX11_lowest_8 rfl (fun x8 ex8 => ?_)
    exact G_lret C dX11_lowest_9 (⟨rfl, by
        rw [ex8]
        subst hna
        unfold x_lowest
        rcases hq with h | h
        · rw [h, if_pos rfl, Nat.zero_div]; rfl
        · rw [h, if_neg (by decide), Nat.gcd_zero_left, Nat.div_self (by omega)]; rfl⟩)
theorem dX11_mean_0 : decode cX11_mean 0 = .ok (.iconst 0, 1) := by decide +kernel
theorem dX11_mean_1 : decode cX11_mean 1 = .ok (.istore_n 2, 1) := by decide +kernel
theorem dX11_mean_2 : decode cX11_mean 2 = .ok (.iconst 0, 1) := by decide +kernel
theorem dX11_mean_3 : decode cX11_mean 3 = .ok (.istore_n 3, 1) := by decide +kernel
theorem dX11_mean_4 : decode cX11_mean 4 = .ok (.iload_n 3, 1) := by decide +kernel
theorem dX11_mean_5 : decode cX11_mean 5 = .ok (.bipush 10, 2) := by decide +kernel
theorem dX11_mean_7 : decode cX11_mean 7 = .ok (.if_icmp .ge 38, 3) := by decide +kernel
theorem dX11_mean_10 : decode cX11_mean 10 = .ok (.iload_n 2, 1) := by decide +kernel
theorem dX11_mean_11 : decode cX11_mean 11 = .ok (.aload_n 0, 1) := by decide +kernel
theorem dX11_mean_12 : decode cX11_mean 12 = .ok (.getfield 19, 3) := by decide +kernel
theorem dX11_mean_15 : decode cX11_mean 15 = .ok (.iconst 2, 1) := by decide +kernel
theorem dX11_mean_16 : decode cX11_mean 16 = .ok (.iaload, 1) := by decide +kernel
theorem dX11_mean_17 : decode cX11_mean 17 = .ok (.iload_n 3, 1) := by decide +kernel
theorem dX11_mean_18 : decode cX11_mean 18 = .ok (.ishr, 1) := by decide +kernel
theorem dX11_mean_19 : decode cX11_mean 19 = .ok (.iconst 1, 1) := by decide +kernel
theorem dX11_mean_20 : decode cX11_mean 20 = .ok (.iand, 1) := by decide +kernel
theorem dX11_mean_21 : decode cX11_mean 21 = .ok (.iconst 1, 1) := by decide +kernel
theorem dX11_mean_22 : decode cX11_mean 22 = .ok (.if_icmp .ne 14, 3) := by decide +kernel
theorem dX11_mean_25 : decode cX11_mean 25 = .ok (.aload_n 0, 1) := by decide +kernel
theorem dX11_mean_26 : decode cX11_mean 26 = .ok (.getfield 19, 3) := by decide +kernel
theorem dX11_mean_29 : decode cX11_mean 29 = .ok (.iconst 3, 1) := by decide +kernel
theorem dX11_mean_30 : decode cX11_mean 30 = .ok (.iload_n 3, 1) := by decide +kernel
theorem dX11_mean_31 : decode cX11_mean 31 = .ok (.iadd, 1) := by decide +kernel
theorem dX11_mean_32 : decode cX11_mean 32 = .ok (.iaload, 1) := by decide +kernel
theorem dX11_mean_33 : decode cX11_mean 33 = .ok (.goto 4, 3) := by decide +kernel
theorem dX11_mean_36 : decode cX11_mean 36 = .ok (.iconst 0, 1) := by decide +kernel
theorem dX11_mean_37 : decode cX11_mean 37 = .ok (.iadd, 1) := by decide +kernel
theorem dX11_mean_38 : decode cX11_mean 38 = .ok (.istore_n 2, 1) := by decide +kernel
theorem dX11_mean_39 : decode cX11_mean 39 = .ok (.iinc 3 1, 3) := by decide +kernel
theorem dX11_mean_42 : decode cX11_mean 42 = .ok (.goto (-38), 3) := by decide +kernel
theorem dX11_mean_45 : decode cX11_mean 45 = .ok (.iload_n 1, 1) := by decide +kernel
theorem dX11_mean_46 : decode cX11_mean 46 = .ok (.iconst 0, 1) := by decide +kernel
theorem dX11_mean_47 : decode cX11_mean 47 = .ok (.iconst 1, 1) := by decide +kernel
theorem dX11_mean_48 : decode cX11_mean 48 = .ok (.invokestatic 78, 3) := by decide +kernel
theorem dX11_mean_51 : decode cX11_mean 51 = .ok (.ifCond .eq 31, 3) := by decide +kernel
theorem dX11_mean_54 : decode cX11_mean 54 = .ok (.aload_n 0, 1) := by decide +kernel
theorem dX11_mean_55 : decode cX11_mean 55 = .ok (.getfield 19, 3) := by decide +kernel
theorem dX11_mean_58 : decode cX11_mean 58 = .ok (.iconst 2, 1) := by decide +kernel
theorem dX11_mean_59 : decode cX11_mean 59 = .ok (.iaload, 1) := by decide +kernel
theorem dX11_mean_60 : decode cX11_mean 60 = .ok (.ifCond .eq 22, 3) := by decide +kernel
theorem dX11_mean_63 : decode cX11_mean 63 = .ok (.iload_n 2, 1) := by decide +kernel
theorem dX11_mean_64 : decode cX11_mean 64 = .ok (.i2l, 1) := by decide +kernel
theorem dX11_mean_65 : decode cX11_mean 65 = .ok (.aload_n 0, 1) := by decide +kernel
theorem dX11_mean_66 : decode cX11_mean 66 = .ok (.getfield 19, 3) := by decide +kernel
theorem dX11_mean_69 : decode cX11_mean 69 = .ok (.iconst 2, 1) := by decide +kernel
theorem dX11_mean_70 : decode cX11_mean 70 = .ok (.iaload, 1) := by decide +kernel
theorem dX11_mean_71 : decode cX11_mean 71 = .ok (.invokestatic 82, 3) := by decide +kernel
theorem dX11_mean_74 : decode cX11_mean 74 = .ok (.i2l, 1) := by decide +kernel
theorem dX11_mean_75 : decode cX11_mean 75 = .ok (.iload_n 1, 1) := by decide +kernel
theorem dX11_mean_76 : decode cX11_mean 76 = .ok (.invokestatic 239, 3) := by decide +kernel
theorem dX11_mean_79 : decode cX11_mean 79 = .ok (.goto 6, 3) := by decide +kernel
theorem dX11_mean_82 : decode cX11_mean 82 = .ok (.ldc2_w 243, 3) := by decide +kernel
theorem dX11_mean_85 : decode cX11_mean 85 = .ok (.lreturn, 1) := by decide +kernel
set_option maxHeartbeats 4000000 in
set_option maxRecDepth 100000 in
theorem c_X11_mean (d : Nat) (TX : gTX) (P B s : gS) (hR0 : RM TX P B s) (q : Int32) : gMt SM yX11_mean cX11_mean 4 (some .long) (d + 3) (fun ad => [.ref (ad 0), .int q]) s (gQl SM (fun r s' => RM TX P B s' ∧ r = s_mean P q)) := by
  obtain ⟨nT, n, l, hR⟩ := hR0
  have hI := hR.1
  have hn6 : n ≤ 6 := hI.2.1.2.1
  have hl6 : l < 6 := mI_l6 hI
  have hxn : x_n P = n := x_nOf hI.2.1.1 hn6
  have hbI := hR.2.2
  have hnT6 : nT ≤ 6 := hI.2.1.2.2.2.2.1
  obtain ⟨tn0, htn0, etn0⟩ := hbI.2.1
  refine gMt_of SM_ok (by decide +kernel) (fun ad => [some (.ref (ad 0)), some (.int q), none, none]) (fun _ => rfl) (fun _ => rfl) (fun _ => Nat.le_of_ble_eq_true rfl) (fun E C0 => ?_)
  have C : gCx SM E RX11 cX11_mean 4 (some .long) (d + 3) := C0
  have fn : Qn s s := Qn.rf
  have i : mI TX nT n l P s := hI
  refine G_iconst (v := 0) C 1 dX11_mean_0 rfl rfl ?_
  refine G_istore_n (i := 2) (L' := [some (.ref (e_ad E 0)), some (.int q), some (.int 0), none]) C 2 dX11_mean_1 rfl rfl (Nat.le_of_ble_eq_true rfl) rfl rfl ?_
  refine G_iconst (v := 0) C 3 dX11_mean_2 rfl rfl ?_
  refine G_istore_n (i := 3) (L' := [some (.ref (e_ad E 0)), some (.int q), some (.int 0), some (.int 0)]) C 4 dX11_mean_3 rfl rfl (Nat.le_of_ble_eq_true rfl) rfl rfl ?_
  have L4 : ∀ (f4 : Nat) (k : Nat) (to y : Int32) (Ey : y = nI k) (hk : k ≤ 10) (hto : to = x_sum P k), 10 < k + f4 → GW SM E (gFin SM E (gQl SM (fun r s' => RM TX P B s' ∧ r = s_mean P q))) 4 [some (.ref (e_ad E 0)), some (.int q), some (.int to), some (.int y)] [] s := by
    intro f4
    induction f4 with
    | zero =>
      intro k to y Ey hk hto hf4
      exact absurd hf4 (by omega)
    | succ f4 ih4 =>
      intro k to y Ey hk hto hf4
      refine G_iload_n (i := 3) C 5 dX11_mean_4 rfl rfl rfl ?_
      refine G_bipush (v := 10) C 7 dX11_mean_5 rfl rfl ?_
      refine G_icmp_ge C 45 10 dX11_mean_7 rfl rfl (fun c7 => ?_) (fun c7 => ?_)
      ·
        have n7 : ¬ k < 10 := fun h => c7 ((g_ltN (a := k) (b := 10) (hx := Ey) (hy := rfl) (by omega) (by omega)).mpr h)
        refine G_iload_n (i := 1) C 46 dX11_mean_45 rfl rfl rfl ?_
        refine G_iconst (v := 0) C 47 dX11_mean_46 rfl rfl ?_
        refine G_iconst (v := 1) C 48 dX11_mean_47 rfl rfl ?_
        refine G_calli 51 (G_runS C Kc_X11_in KS_X11_78 (by omega) (c_X11_in 0 q 0 1 s) rfl rfl (Nat.le_of_ble_eq_true rfl) rfl dX11_mean_48) rfl (fun x48 s48 h48 => ?_)
        obtain ⟨es48, h48⟩ := h48
        have es48 := es48.symm
        subst es48
        refine G_if_eq C 82 54 dX11_mean_51 rfl rfl (fun c51 => ?_) (fun c51 => ?_)
        ·
          have k51 := h48.symm.trans c51
          refine G_ldc2 (v := (-4611686018427387904)) C 85 w_1164 dX11_mean_82 rfl ?_
          exact G_lret C dX11_mean_85 (⟨⟨nT, n, l, hR⟩, by unfold s_mean; rw [if_pos k51]⟩)
        ·
          have k51 := g_neT h48 c51
          refine G_aload_n (i := 0) C 55 dX11_mean_54 rfl rfl rfl ?_
          refine X11_19g C 58 dX11_mean_55 rfl ?_
          refine G_iconst (v := 2) C 59 dX11_mean_58 rfl rfl ?_
          refine G_iald (n := 13) C 60 (by decide) (eMk (by decide) _ _ _) (2) rfl (by omega) (by decide) dX11_mean_59 rfl (fun x59 ex59 => ?_)
          have Sx59 : x59 = P 0 2 := ex59.trans (mI_v i 0 2)
          obtain ⟨mx59, hmx59, emx59⟩ := i.2.1.2.2.2.2.2.2.2.1
          refine G_if_eq C 82 63 dX11_mean_60 rfl rfl (fun c60 => ?_) (fun c60 => ?_)
          ·
            have n60 : mx59 = 0 := (g_eqN (a := mx59) (b := 0) (hx := (Sx59.trans emx59)) (hy := rfl) (by omega) (by omega)).mp c60
            refine G_ldc2 (v := (-4611686018427387904)) C 85 w_1164 dX11_mean_82 rfl ?_
            exact G_lret C dX11_mean_85 (⟨⟨nT, n, l, hR⟩, by unfold s_mean; rw [if_neg k51, if_pos (Sx59.symm.trans c60)]⟩)
          ·
            have n60 : ¬ mx59 = 0 := fun h => c60 ((g_eqN (a := mx59) (b := 0) (hx := (Sx59.trans emx59)) (hy := rfl) (by omega) (by omega)).mpr h)
            refine G_iload_n (i := 2) C 64 dX11_mean_63 rfl rfl rfl ?_
            refine G_i2l C 65 dX11_mean_64 rfl (fun x64 ex64 => ?_)
            refine G_aload_n (i := 0) C 66 dX11_mean_65 rfl rfl rfl ?_
            refine X11_19g C 69 dX11_mean_66 rfl ?_
            refine G_iconst (v := 2) C 70 dX11_mean_69 rfl rfl ?_
            refine G_iald (n := 13) C 71 (by decide) (eMk (by decide) _ _ _) (2) rfl (by omega) (by decide) dX11_mean_70 rfl (fun x70 ex70 => ?_)
            have Sx70 : x70 = P 0 2 := ex70.trans (mI_v i 0 2)
            obtain ⟨mx70, hmx70, emx70⟩ := i.2.1.2.2.2.2.2.2.2.1
            refine G_calli 74 (G_runS C Kc_X11_onesOf KS_X11_82 (by omega) (c_X11_onesOf 0 x70 s) rfl rfl (Nat.le_of_ble_eq_true rfl) rfl dX11_mean_71) rfl (fun x71 s71 h71 => ?_)
            obtain ⟨es71, h71⟩ := h71
            have es71 := es71.symm
            subst es71
            refine G_i2l C 75 dX11_mean_74 rfl (fun x74 ex74 => ?_)
            refine G_iload_n (i := 1) C 76 dX11_mean_75 rfl rfl rfl ?_
            obtain ⟨na, hna, ena⟩ := x_sum_r hbI.2.2.2.2.2.1 10 (Nat.le_refl _)
            have e10 : k = 10 := by omega
            have ea : to = nI na := by rw [hto, e10, ena]
            obtain ⟨nb, hnb, eb⟩ : ∃ nb, nb ≤ 10 ∧ x71 = nI nb := by obtain ⟨j, hj, ej⟩ := x_cnt_r x70; exact ⟨j, hj, h71.trans ej⟩
            have hb1 : 1 ≤ nb := by
              rcases Nat.eq_zero_or_pos nb with w | w
              · exfalso
                have em : x70 = nI mx70 := Sx70.trans emx70
                refine x_cnt_pos mx70 hmx70 ?_ ?_
                · intro w2
                  refine c60 ?_
                  rw [Sx59, ← Sx70, em, w2]
                  rfl
                · rw [← em, ← h71, eb, w]
                  rfl
              · exact w
            have hq : q = 0 ∨ q = 1 := by
              obtain ⟨z, hz, ez⟩ := x_inR (b := 1) k51 rfl (by decide)
              have : z = 0 ∨ z = 1 := by omega
              rcases this with rfl | rfl
              · exact Or.inl ez
              · exact Or.inr ez
            refine G_calll 79 (G_runS C Kc_X11_lowest KS_X11_239 (by omega) (c_X11_lowest 0 na nb (by omega) hb1 (by omega) x64 x74 q (i_toL ex64 ea (by omega)) (i_toL ex74 eb (by omega)) hq s) rfl rfl (Nat.le_of_ble_eq_true rfl) rfl dX11_mean_76) rfl (fun x76 s76 h76 => ?_)
            obtain ⟨es76, h76⟩ := h76
            have es76 := es76.symm
            subst es76
            refine G_goto C 85 dX11_mean_79 rfl ?_
            exact G_lret C dX11_mean_85 (⟨⟨nT, n, l, hR⟩, by unfold s_mean; rw [if_neg k51, if_neg (fun w => c60 (Sx59.trans w)), ena, nI_clamp (by omega), ← Sx70, ← h71, eb, nI_clamp (by omega)]; exact h76⟩)
      ·
        have n7 : k < 10 := (g_ltN (a := k) (b := 10) (hx := Ey) (hy := rfl) (by omega) (by omega)).mp c7
        refine G_iload_n (i := 2) C 11 dX11_mean_10 rfl rfl rfl ?_
        refine G_aload_n (i := 0) C 12 dX11_mean_11 rfl rfl rfl ?_
        refine X11_19g C 15 dX11_mean_12 rfl ?_
        refine G_iconst (v := 2) C 16 dX11_mean_15 rfl rfl ?_
        refine G_iald (n := 13) C 17 (by decide) (eMk (by decide) _ _ _) (2) rfl (by omega) (by decide) dX11_mean_16 rfl (fun x16 ex16 => ?_)
        have Sx16 : x16 = P 0 2 := ex16.trans (mI_v i 0 2)
        obtain ⟨mx16, hmx16, emx16⟩ := i.2.1.2.2.2.2.2.2.2.1
        refine G_iload_n (i := 3) C 18 dX11_mean_17 rfl rfl rfl ?_
        refine G_ishr C 19 dX11_mean_18 rfl (fun x18 ex18 => ?_)
        refine G_iconst (v := 1) C 20 dX11_mean_19 rfl rfl ?_
        refine G_iand C 21 dX11_mean_20 rfl (fun x20 ex20 => ?_)
        refine G_iconst (v := 1) C 22 dX11_mean_21 rfl rfl ?_
        refine G_icmp_ne C 36 25 dX11_mean_22 rfl rfl (fun c22 => ?_) (fun c22 => ?_)
        ·
          refine G_iconst (v := 0) C 37 dX11_mean_36 rfl rfl ?_
          refine G_iadd C 38 dX11_mean_37 rfl (fun x37 ex37 => ?_)
          refine G_istore_n (i := 2) (L' := [some (.ref (e_ad E 0)), some (.int q), some (.int x37), some (.int y)]) C 39 dX11_mean_38 rfl rfl (Nat.le_of_ble_eq_true rfl) rfl rfl ?_
          refine G_iinc (w := 1) C 42 dX11_mean_39 rfl rfl rfl rfl (fun x39 ex39 => ?_)
          have Nx39 : x39 = nI (k + 1) := g_addN ex39 Ey rfl
          show GW SM E _ 42 [some (.ref (e_ad E 0)), some (.int q), some (.int x37), some (.int x39)] [] s
          refine G_goto C 4 dX11_mean_42 rfl ?_
          exact ih4 (k + 1) x37 x39  (g_cn (a := (k + 1)) Nx39 (by first | rfl | omega | (simp only [List.length_cons, List.length_drop]; done) | (simp only [List.length_cons, List.length_drop]; omega))) (by omega) (by rw [x_sum, if_pos (x_bitN1 (by unfold x_bit; rw [← Ey, ← Sx16, ← ex18, ← ex20]; exact c22)), ex37, hto]; exact Int32.add_zero _) (by omega)
        ·
          refine G_aload_n (i := 0) C 26 dX11_mean_25 rfl rfl rfl ?_
          refine X11_19g C 29 dX11_mean_26 rfl ?_
          refine G_iconst (v := 3) C 30 dX11_mean_29 rfl rfl ?_
          refine G_iload_n (i := 3) C 31 dX11_mean_30 rfl rfl rfl ?_
          refine G_iadd C 32 dX11_mean_31 rfl (fun x31 ex31 => ?_)
          have Nx31 : x31 = nI (3 + k) := g_addN ex31 rfl Ey
          refine G_iald (n := 13) C 33 (by decide) (eMk (by decide) _ _ _) ((3 + k)) Nx31 (by omega) (by decide) dX11_mean_32 rfl (fun x32 ex32 => ?_)
          have Sx32 : x32 = P 1 k := ex32.trans (congrFun (congrFun i.1 1) k)
          refine G_goto C 37 dX11_mean_33 rfl ?_
          refine G_iadd C 38 dX11_mean_37 rfl (fun x37 ex37 => ?_)
          refine G_istore_n (i := 2) (L' := [some (.ref (e_ad E 0)), some (.int q), some (.int x37), some (.int y)]) C 39 dX11_mean_38 rfl rfl (Nat.le_of_ble_eq_true rfl) rfl rfl ?_
          refine G_iinc (w := 1) C 42 dX11_mean_39 rfl rfl rfl rfl (fun x39 ex39 => ?_)
          have Nx39 : x39 = nI (k + 1) := g_addN ex39 Ey rfl
          show GW SM E _ 42 [some (.ref (e_ad E 0)), some (.int q), some (.int x37), some (.int x39)] [] s
          refine G_goto C 4 dX11_mean_42 rfl ?_
          exact ih4 (k + 1) x37 x39  (g_cn (a := (k + 1)) Nx39 (by first | rfl | omega | (simp only [List.length_cons, List.length_drop]; done) | (simp only [List.length_cons, List.length_drop]; omega))) (by omega) (by rw [x_sum, if_neg (x_bit1N (by unfold x_bit; rw [← Ey, ← Sx16, ← ex18, ← ex20]; exact c22)), ex37, Sx32, hto]) (by omega)
  exact L4 (10 + 1) 0 0 0  (g_cn (a := 0) rfl (by first | rfl | omega)) (by omega) (rfl) (by omega)
