theorem dX10_borough_0 : decode cX10_borough 0 = .ok (.iload_n 1, 1) := by decide +kernel
theorem dX10_borough_1 : decode cX10_borough 1 = .ok (.iconst 0, 1) := by decide +kernel
theorem dX10_borough_2 : decode cX10_borough 2 = .ok (.bipush 12, 2) := by decide +kernel
theorem dX10_borough_4 : decode cX10_borough 4 = .ok (.invokestatic 112, 3) := by decide +kernel
theorem dX10_borough_7 : decode cX10_borough 7 = .ok (.ifCond .eq 15, 3) := by decide +kernel
theorem dX10_borough_10 : decode cX10_borough 10 = .ok (.iload_n 2, 1) := by decide +kernel
theorem dX10_borough_11 : decode cX10_borough 11 = .ok (.iconst 0, 1) := by decide +kernel
theorem dX10_borough_12 : decode cX10_borough 12 = .ok (.iload_n 1, 1) := by decide +kernel
theorem dX10_borough_13 : decode cX10_borough 13 = .ok (.invokestatic 116, 3) := by decide +kernel
theorem dX10_borough_16 : decode cX10_borough 16 = .ok (.invokestatic 112, 3) := by decide +kernel
theorem dX10_borough_19 : decode cX10_borough 19 = .ok (.ifCond .ne 6, 3) := by decide +kernel
theorem dX10_borough_22 : decode cX10_borough 22 = .ok (.bipush (-2), 2) := by decide +kernel
theorem dX10_borough_24 : decode cX10_borough 24 = .ok (.ireturn, 1) := by decide +kernel
theorem dX10_borough_25 : decode cX10_borough 25 = .ok (.aload_n 0, 1) := by decide +kernel
theorem dX10_borough_26 : decode cX10_borough 26 = .ok (.iload_n 1, 1) := by decide +kernel
theorem dX10_borough_27 : decode cX10_borough 27 = .ok (.invokevirtual 119, 3) := by decide +kernel
theorem dX10_borough_30 : decode cX10_borough 30 = .ok (.istore_n 3, 1) := by decide +kernel
theorem dX10_borough_31 : decode cX10_borough 31 = .ok (.iload_n 1, 1) := by decide +kernel
theorem dX10_borough_32 : decode cX10_borough 32 = .ok (.tableswitch 61 0 2 #[28, 39, 50], 28) := by decide +kernel
theorem dX10_borough_60 : decode cX10_borough 60 = .ok (.aload_n 0, 1) := by decide +kernel
theorem dX10_borough_61 : decode cX10_borough 61 = .ok (.getfield 57, 3) := by decide +kernel
theorem dX10_borough_64 : decode cX10_borough 64 = .ok (.iload_n 2, 1) := by decide +kernel
theorem dX10_borough_65 : decode cX10_borough 65 = .ok (.putfield 97, 3) := by decide +kernel
theorem dX10_borough_68 : decode cX10_borough 68 = .ok (.goto 37, 3) := by decide +kernel
theorem dX10_borough_71 : decode cX10_borough 71 = .ok (.aload_n 0, 1) := by decide +kernel
theorem dX10_borough_72 : decode cX10_borough 72 = .ok (.getfield 57, 3) := by decide +kernel
theorem dX10_borough_75 : decode cX10_borough 75 = .ok (.iload_n 2, 1) := by decide +kernel
theorem dX10_borough_76 : decode cX10_borough 76 = .ok (.putfield 122, 3) := by decide +kernel
theorem dX10_borough_79 : decode cX10_borough 79 = .ok (.goto 26, 3) := by decide +kernel
theorem dX10_borough_82 : decode cX10_borough 82 = .ok (.aload_n 0, 1) := by decide +kernel
theorem dX10_borough_83 : decode cX10_borough 83 = .ok (.getfield 57, 3) := by decide +kernel
theorem dX10_borough_86 : decode cX10_borough 86 = .ok (.iload_n 2, 1) := by decide +kernel
theorem dX10_borough_87 : decode cX10_borough 87 = .ok (.putfield 100, 3) := by decide +kernel
theorem dX10_borough_90 : decode cX10_borough 90 = .ok (.goto 15, 3) := by decide +kernel
theorem dX10_borough_93 : decode cX10_borough 93 = .ok (.aload_n 0, 1) := by decide +kernel
theorem dX10_borough_94 : decode cX10_borough 94 = .ok (.getfield 57, 3) := by decide +kernel
theorem dX10_borough_97 : decode cX10_borough 97 = .ok (.getfield 125, 3) := by decide +kernel
theorem dX10_borough_100 : decode cX10_borough 100 = .ok (.iload_n 1, 1) := by decide +kernel
theorem dX10_borough_101 : decode cX10_borough 101 = .ok (.iconst 3, 1) := by decide +kernel
theorem dX10_borough_102 : decode cX10_borough 102 = .ok (.isub, 1) := by decide +kernel
theorem dX10_borough_103 : decode cX10_borough 103 = .ok (.iload_n 2, 1) := by decide +kernel
theorem dX10_borough_104 : decode cX10_borough 104 = .ok (.iastore, 1) := by decide +kernel
theorem dX10_borough_105 : decode cX10_borough 105 = .ok (.iload_n 3, 1) := by decide +kernel
theorem dX10_borough_106 : decode cX10_borough 106 = .ok (.ireturn, 1) := by decide +kernel
set_option maxHeartbeats 4000000 in
set_option maxRecDepth 100000 in
theorem c_X10_borough (d : Nat) (TX : gTX) (P B s : gS) (hR0 : RC TX P B s) (q v : Int32) : gMt SC yX10_borough cX10_borough 4 (some .int) (d + 3) (fun ad => [.ref (ad 0), .int q, .int v]) s (gQi SC (fun r s' => RC TX (s_boP P q v) B s' ∧ r = s_boR P q v)) := by
  obtain ⟨nT, n, l, hR⟩ := hR0
  have hI := hR.1
  have hn6 : n ≤ 6 := hI.2.2.1.2.1
  have hl6 : l < 6 := cI_l6 hI
  have hxn : x_n P = n := x_nOf hI.2.2.1.1 hn6
  have hbI := hR.2.2
  refine gMt_of SC_ok (by decide +kernel) (fun ad => [some (.ref (ad 0)), some (.int q), some (.int v), none]) (fun _ => rfl) (fun _ => rfl) (fun _ => Nat.le_of_ble_eq_true rfl) (fun E C0 => ?_)
  have C : gCx SC E RX10 cX10_borough 4 (some .int) (d + 3) := C0
  have i : cI TX nT n l 45 P s := hI
  have f : Fr (mW 45) s s := Fr.rf
  refine G_iload_n (i := 1) C 1 dX10_borough_0 rfl rfl rfl ?_
  refine G_iconst (v := 0) C 2 dX10_borough_1 rfl rfl ?_
  refine G_bipush (v := 12) C 4 dX10_borough_2 rfl rfl ?_
  refine G_calli 7 (G_runS C Kc_X10_within KS_X10_112 (by omega) (c_X10_within 0 q 0 12 s) rfl rfl (Nat.le_of_ble_eq_true rfl) rfl dX10_borough_4) rfl (fun x4 s4 h4 => ?_)
  obtain ⟨es4, h4⟩ := h4
  have es4 := es4.symm
  subst es4
  refine G_if_eq C 22 10 dX10_borough_7 rfl rfl (fun c7 => ?_) (fun c7 => ?_)
  ·
    have k7 := h4.symm.trans c7
    refine G_bipush (v := (-2)) C 24 dX10_borough_22 rfl rfl ?_
    exact G_iret C dX10_borough_24 (⟨by unfold s_boP s_boOk; rw [if_pos k7, if_pos rfl]; exact ⟨nT, n, l, hR⟩, by unfold s_boR s_boOk; rw [if_pos k7, if_pos rfl] <;> rfl⟩)
  ·
    have k7 := g_neT h4 c7
    obtain ⟨uq, huq, euq⟩ := x_inR (b := 12) k7 rfl (by decide)
    have cuq : q.toNatClampNeg = uq := by rw [euq, nI_clamp (by omega)]
    refine G_iload_n (i := 2) C 11 dX10_borough_10 rfl rfl rfl ?_
    refine G_iconst (v := 0) C 12 dX10_borough_11 rfl rfl ?_
    refine G_iload_n (i := 1) C 13 dX10_borough_12 rfl rfl rfl ?_
    refine G_calli 16 (G_runS C Kc_X10_mostOfBorough KS_X10_116 (by omega) (c_X10_mostOfBorough 0 q s) rfl rfl (Nat.le_of_ble_eq_true rfl) rfl dX10_borough_13) rfl (fun x13 s13 h13 => ?_)
    obtain ⟨es13, h13⟩ := h13
    have es13 := es13.symm
    subst es13
    refine G_calli 19 (G_runS C Kc_X10_within KS_X10_112 (by omega) (c_X10_within 0 v 0 x13 s) rfl rfl (Nat.le_of_ble_eq_true rfl) rfl dX10_borough_16) rfl (fun x16 s16 h16 => ?_)
    obtain ⟨es16, h16⟩ := h16
    have es16 := es16.symm
    subst es16
    refine G_if_ne C 25 22 dX10_borough_19 rfl rfl (fun c19 => ?_) (fun c19 => ?_)
    ·
      have k19 := g_neT h16 c19
      refine G_aload_n (i := 0) C 26 dX10_borough_25 rfl rfl rfl ?_
      refine G_iload_n (i := 1) C 27 dX10_borough_26 rfl rfl rfl ?_
      refine G_calli 30 (G_runV C Kc_X10_ofBorough KV_X10_119 (by omega) (by decide) (eC _ _ _) rfl (c_X10_ofBorough 0 TX P B s ⟨nT, n, l, hR⟩ q uq euq (by omega)) rfl rfl rfl (Nat.le_of_ble_eq_true rfl) rfl dX10_borough_27) rfl (fun x27 s27 h27 => ?_)
      obtain ⟨es27, h27⟩ := h27
      have es27 := es27.symm
      subst es27
      refine G_istore_n (i := 3) (L' := [some (.ref (e_ad E 0)), some (.int q), some (.int v), some (.int x27)]) C 31 dX10_borough_30 rfl rfl (Nat.le_of_ble_eq_true rfl) rfl rfl ?_
      refine G_iload_n (i := 1) C 32 dX10_borough_31 rfl rfl rfl ?_
      by_cases c32 : q = 0
      ·
        refine G_tsIn C 60 (0) c32 dX10_borough_32 (by decide) rfl rfl ?_
        obtain rfl : uq = 0 := (g_eqN (b := 0) euq rfl (by omega) (by omega)).mp c32
        refine G_aload_n (i := 0) C 61 dX10_borough_60 rfl rfl rfl ?_
        refine X10_57g C 64 dX10_borough_61 rfl ?_
        refine G_iload_n (i := 2) C 65 dX10_borough_64 rfl rfl rfl ?_
        refine X10_97p C (Or.inl rfl) 68 dX10_borough_65 rfl (fun s65 es65 => ?_)
        have f_1 : Fr (mW 45) s s65 := Fr.tr f (Fr.upW (i := 0) es65 (by decide))
        refine G_goto C 105 dX10_borough_68 rfl ?_
        refine G_iload_n (i := 3) C 106 dX10_borough_105 rfl rfl rfl ?_
        have eR : s_boR P q v = s_old P 0 := by unfold s_boR s_boOk; rw [if_neg k7, ← h13, if_neg k19, cuq]
        have eP : s_boP P q v = g_up P 0 0 v := by unfold s_boP s_boOk s_lay; rw [if_neg k7, ← h13, if_neg k19, cuq, if_pos (by decide)]
        exact G_iret C dX10_borough_106 (⟨by rw [eP]; exact RC_up hR (cI_hour hI es65) f_1 rfl rfl (eI_of hbI.2.2.2.2.2.1 rfl), by rw [eR, h27]⟩)
      by_cases c32_1 : q = 1
      ·
        refine G_tsIn C 71 (1) c32_1 dX10_borough_32 (by decide) rfl rfl ?_
        obtain rfl : uq = 1 := (g_eqN (b := 1) euq rfl (by omega) (by omega)).mp c32_1
        refine G_aload_n (i := 0) C 72 dX10_borough_71 rfl rfl rfl ?_
        refine X10_57g C 75 dX10_borough_72 rfl ?_
        refine G_iload_n (i := 2) C 76 dX10_borough_75 rfl rfl rfl ?_
        refine X10_122p C (Or.inl rfl) 79 dX10_borough_76 rfl (fun s76 es76 => ?_)
        have f_1 : Fr (mW 45) s s76 := Fr.tr f (Fr.upW (i := 0) es76 (by decide))
        refine G_goto C 105 dX10_borough_79 rfl ?_
        refine G_iload_n (i := 3) C 106 dX10_borough_105 rfl rfl rfl ?_
        have eR : s_boR P q v = s_old P 1 := by unfold s_boR s_boOk; rw [if_neg k7, ← h13, if_neg k19, cuq]
        have eP : s_boP P q v = g_up P 0 1 v := by unfold s_boP s_boOk s_lay; rw [if_neg k7, ← h13, if_neg k19, cuq, if_pos (by decide)]
        exact G_iret C dX10_borough_106 (⟨by rw [eP]; exact RC_up hR (cI_corner hI es76 (by obtain ⟨z, hz, ez⟩ := x_inR (b := 8) k19 (by rw [h13, c32_1]; decide) (by decide); exact ⟨z, by omega, ez⟩)) f_1 rfl rfl (eI_of hbI.2.2.2.2.2.1 rfl), by rw [eR, h27]⟩)
      by_cases c32_2 : q = 2
      ·
        refine G_tsIn C 82 (2) c32_2 dX10_borough_32 (by decide) rfl rfl ?_
        obtain rfl : uq = 2 := (g_eqN (b := 2) euq rfl (by omega) (by omega)).mp c32_2
        refine G_aload_n (i := 0) C 83 dX10_borough_82 rfl rfl rfl ?_
        refine X10_57g C 86 dX10_borough_83 rfl ?_
        refine G_iload_n (i := 2) C 87 dX10_borough_86 rfl rfl rfl ?_
        refine X10_100p C (Or.inl rfl) 90 dX10_borough_87 rfl (fun s87 es87 => ?_)
        have f_1 : Fr (mW 45) s s87 := Fr.tr f (Fr.upW (i := 0) es87 (by decide))
        refine G_goto C 105 dX10_borough_90 rfl ?_
        refine G_iload_n (i := 3) C 106 dX10_borough_105 rfl rfl rfl ?_
        have eR : s_boR P q v = s_old P 2 := by unfold s_boR s_boOk; rw [if_neg k7, ← h13, if_neg k19, cuq]
        have eP : s_boP P q v = g_up P 0 2 v := by unfold s_boP s_boOk s_lay; rw [if_neg k7, ← h13, if_neg k19, cuq, if_pos (by decide)]
        exact G_iret C dX10_borough_106 (⟨by rw [eP]; exact RC_up hR (cI_news hI es87 (by obtain ⟨z, hz, ez⟩ := x_inR (b := 1023) k19 (by rw [h13, c32_2]; decide) (by decide); exact ⟨z, by omega, ez⟩)) f_1 rfl rfl (eI_of hbI.2.2.2.2.2.1 rfl), by rw [eR, h27]⟩)
      refine G_tsOut C 93 dX10_borough_32 (by
        have e0 := g_ti (k := 0) 0 rfl c32
        have e1 := g_ti (k := 1) 1 rfl c32_1
        have e2 := g_ti (k := 2) 2 rfl c32_2
        omega) rfl ?_
      have hq3 : 3 ≤ uq := by
        have z0 : ¬ uq = 0 := fun z => c32 (by rw [euq, z]; rfl)
        have z1 : ¬ uq = 1 := fun z => c32_1 (by rw [euq, z]; rfl)
        have z2 : ¬ uq = 2 := fun z => c32_2 (by rw [euq, z]; rfl)
        omega
      refine G_aload_n (i := 0) C 94 dX10_borough_93 rfl rfl rfl ?_
      refine X10_57g C 97 dX10_borough_94 rfl ?_
      refine X10_125g C (Or.inl rfl) 100 dX10_borough_97 rfl ?_
      refine G_iload_n (i := 1) C 101 dX10_borough_100 rfl rfl rfl ?_
      refine G_iconst (v := 3) C 102 dX10_borough_101 rfl rfl ?_
      refine G_isub C 103 dX10_borough_102 rfl (fun x102 ex102 => ?_)
      have Nx102 : x102 = nI (uq - 3) := g_subN ex102 euq rfl hq3
      refine G_iload_n (i := 2) C 104 dX10_borough_103 rfl rfl rfl ?_
      refine G_iast (n := 10) C 105 (lW (Or.inl rfl) (by decide)) (fun σ => eWe _ _ σ (Or.inl rfl)) ((uq - 3)) Nx102 (by omega) (by decide) (Nat.le_of_eq (nW1 (Or.inl rfl)).symm) dX10_borough_104 rfl (fun s104 es104 => ?_)
      have f_1 : Fr (mW 45) s s104 := Fr.tr f (Fr.upW es104 (by decide))
      refine G_iload_n (i := 3) C 106 dX10_borough_105 rfl rfl rfl ?_
      have eR : s_boR P q v = s_old P uq := by unfold s_boR s_boOk; rw [if_neg k7, ← h13, if_neg k19, cuq]
      have eP : s_boP P q v = g_up P 1 (uq - 3) v := by unfold s_boP s_boOk s_lay; rw [if_neg k7, ← h13, if_neg k19, cuq, if_neg (by omega)]
      have hv : ∃ e, e ≤ 99 ∧ v = nI e := x_inR (b := 99) k19 (by rw [h13]; unfold s_most; rw [if_neg c32, if_neg c32_1, if_neg c32_2]; rfl) (by decide)
      exact G_iret C dX10_borough_106 (⟨by rw [eP]; exact RC_up hR (cI_up1 hI es104) f_1 rfl rfl (eI_up hbI.2.2.2.2.2.1 hv), by rw [eR, h27]⟩)
    ·
      have k19 := h16.symm.trans c19
      refine G_bipush (v := (-2)) C 24 dX10_borough_22 rfl rfl ?_
      exact G_iret C dX10_borough_24 (⟨by unfold s_boP s_boOk; rw [if_neg k7, ← h13, if_pos k19]; exact ⟨nT, n, l, hR⟩, by unfold s_boR s_boOk; rw [if_neg k7, ← h13, if_pos k19] <;> rfl⟩)
theorem dX10_crier_0 : decode cX10_crier 0 = .ok (.iload_n 1, 1) := by decide +kernel
theorem dX10_crier_1 : decode cX10_crier 1 = .ok (.bipush 13, 2) := by decide +kernel
theorem dX10_crier_3 : decode cX10_crier 3 = .ok (.if_icmp .ne 28, 3) := by decide +kernel
theorem dX10_crier_6 : decode cX10_crier 6 = .ok (.aload_n 0, 1) := by decide +kernel
theorem dX10_crier_7 : decode cX10_crier 7 = .ok (.getfield 57, 3) := by decide +kernel
theorem dX10_crier_10 : decode cX10_crier 10 = .ok (.aload_n 0, 1) := by decide +kernel
theorem dX10_crier_11 : decode cX10_crier 11 = .ok (.getfield 57, 3) := by decide +kernel
theorem dX10_crier_14 : decode cX10_crier 14 = .ok (.getfield 122, 3) := by decide +kernel
theorem dX10_crier_17 : decode cX10_crier 17 = .ok (.aload_n 0, 1) := by decide +kernel
theorem dX10_crier_18 : decode cX10_crier 18 = .ok (.getfield 57, 3) := by decide +kernel
theorem dX10_crier_21 : decode cX10_crier 21 = .ok (.getfield 100, 3) := by decide +kernel
theorem dX10_crier_24 : decode cX10_crier 24 = .ok (.invokevirtual 128, 3) := by decide +kernel
theorem dX10_crier_27 : decode cX10_crier 27 = .ok (.invokestatic 132, 3) := by decide +kernel
theorem dX10_crier_30 : decode cX10_crier 30 = .ok (.ireturn, 1) := by decide +kernel
theorem dX10_crier_31 : decode cX10_crier 31 = .ok (.iload_n 1, 1) := by decide +kernel
theorem dX10_crier_32 : decode cX10_crier 32 = .ok (.iconst 0, 1) := by decide +kernel
theorem dX10_crier_33 : decode cX10_crier 33 = .ok (.bipush 12, 2) := by decide +kernel
theorem dX10_crier_35 : decode cX10_crier 35 = .ok (.invokestatic 112, 3) := by decide +kernel
theorem dX10_crier_38 : decode cX10_crier 38 = .ok (.ifCond .eq 11, 3) := by decide +kernel
theorem dX10_crier_41 : decode cX10_crier 41 = .ok (.aload_n 0, 1) := by decide +kernel
theorem dX10_crier_42 : decode cX10_crier 42 = .ok (.iload_n 1, 1) := by decide +kernel
theorem dX10_crier_43 : decode cX10_crier 43 = .ok (.invokevirtual 119, 3) := by decide +kernel
theorem dX10_crier_46 : decode cX10_crier 46 = .ok (.goto 5, 3) := by decide +kernel
theorem dX10_crier_49 : decode cX10_crier 49 = .ok (.bipush (-2), 2) := by decide +kernel
theorem dX10_crier_51 : decode cX10_crier 51 = .ok (.ireturn, 1) := by decide +kernel
set_option maxHeartbeats 4000000 in
set_option maxRecDepth 100000 in
theorem c_X10_crier (d : Nat) (TX : gTX) (P B s : gS) (hR0 : RC TX P B s) (q : Int32) : gMt SC yX10_crier cX10_crier 2 (some .int) (d + 8) (fun ad => [.ref (ad 0), .int q]) s (gQi SC (fun r s' => RC TX P B s' ∧ r = s_crier TX P q)) := by
  obtain ⟨nT, n, l, hR⟩ := hR0
  have hI := hR.1
  have hn6 : n ≤ 6 := hI.2.2.1.2.1
  have hl6 : l < 6 := cI_l6 hI
  have hxn : x_n P = n := x_nOf hI.2.2.1.1 hn6
  have hbI := hR.2.2
  refine gMt_of SC_ok (by decide +kernel) (fun ad => [some (.ref (ad 0)), some (.int q)]) (fun _ => rfl) (fun _ => rfl) (fun _ => Nat.le_of_ble_eq_true rfl) (fun E C0 => ?_)
  have C : gCx SC E RX10 cX10_crier 2 (some .int) (d + 8) := C0
  have fm : cI TX nT n l 45 P s := hI
  have fq : Fr mQ s s := Fr.rf
  refine G_iload_n (i := 1) C 1 dX10_crier_0 rfl rfl rfl ?_
  refine G_bipush (v := 13) C 3 dX10_crier_1 rfl rfl ?_
  refine G_icmp_ne C 31 6 dX10_crier_3 rfl rfl (fun c3 => ?_) (fun c3 => ?_)
  ·
    refine G_iload_n (i := 1) C 32 dX10_crier_31 rfl rfl rfl ?_
    refine G_iconst (v := 0) C 33 dX10_crier_32 rfl rfl ?_
    refine G_bipush (v := 12) C 35 dX10_crier_33 rfl rfl ?_
    refine G_calli 38 (G_runS C Kc_X10_within KS_X10_112 (by omega) (c_X10_within 0 q 0 12 s) rfl rfl (Nat.le_of_ble_eq_true rfl) rfl dX10_crier_35) rfl (fun x35 s35 h35 => ?_)
    obtain ⟨es35, h35⟩ := h35
    have es35 := es35.symm
    subst es35
    refine G_if_eq C 49 41 dX10_crier_38 rfl rfl (fun c38 => ?_) (fun c38 => ?_)
    ·
      have k38 := h35.symm.trans c38
      refine G_bipush (v := (-2)) C 51 dX10_crier_49 rfl rfl ?_
      exact G_iret C dX10_crier_51 (⟨RC_q hR fq, by unfold s_crier; rw [if_neg c3, if_pos k38]⟩)
    ·
      have k38 := g_neT h35 c38
      obtain ⟨uq, huq, euq⟩ := x_inR (b := 12) k38 rfl (by decide)
      have cuq : q.toNatClampNeg = uq := by rw [euq, nI_clamp (by omega)]
      refine G_aload_n (i := 0) C 42 dX10_crier_41 rfl rfl rfl ?_
      refine G_iload_n (i := 1) C 43 dX10_crier_42 rfl rfl rfl ?_
      refine G_calli 46 (G_runV C Kc_X10_ofBorough KV_X10_119 (by omega) (by decide) (eC _ _ _) rfl (c_X10_ofBorough 0 TX P B s (RC_q hR fq) q uq euq (by omega)) rfl rfl rfl (Nat.le_of_ble_eq_true rfl) rfl dX10_crier_43) rfl (fun x43 s43 h43 => ?_)
      obtain ⟨es43, h43⟩ := h43
      have es43 := es43.symm
      subst es43
      refine G_goto C 51 dX10_crier_46 rfl ?_
      exact G_iret C dX10_crier_51 (⟨RC_q hR fq, h43.trans (by unfold s_crier; rw [if_neg c3, if_neg k38, cuq])⟩)
  ·
    refine G_aload_n (i := 0) C 7 dX10_crier_6 rfl rfl rfl ?_
    refine X10_57g C 10 dX10_crier_7 rfl ?_
    refine G_aload_n (i := 0) C 11 dX10_crier_10 rfl rfl rfl ?_
    refine X10_57g C 14 dX10_crier_11 rfl ?_
    refine X10_122g C (Or.inl rfl) 17 dX10_crier_14 rfl (fun x14 ex14 => ?_)
    have Sx14 : x14 = P 0 1 := ex14.trans (cI_v fm 0 1)
    obtain ⟨mx14, hmx14, emx14⟩ := fm.2.2.1.2.2.2.2.2.2.2.2
    refine G_aload_n (i := 0) C 18 dX10_crier_17 rfl rfl rfl ?_
    refine X10_57g C 21 dX10_crier_18 rfl ?_
    refine X10_100g C (Or.inl rfl) 24 dX10_crier_21 rfl (fun x21 ex21 => ?_)
    have Sx21 : x21 = P 0 2 := ex21.trans (cI_v fm 0 2)
    obtain ⟨mx21, hmx21, emx21⟩ := fm.2.2.1.2.2.2.2.2.2.2.1
    refine G_calli 27 (G_runV C Kc_X9_mayAt KV_X10_128 (by omega) (lW0 (Or.inl rfl)) (eW _ _ _ (Or.inl rfl)) rfl (c_X9_mayAt 0 TX nT n l 45 P s fm x14 x21 (⟨_, hmx21, Sx21.trans emx21⟩)) rfl rfl rfl (Nat.le_of_ble_eq_true rfl) rfl dX10_crier_24) rfl (fun x24 s24 h24 => ?_)
    have fm_1 : cI TX nT n l 45 P s24 := cI_q fm (h24.1.SQ)
    have fq_1 : Fr mQ s s24 := Fr.tr fq (h24.1.SQ)
    refine G_calli 30 (G_runS C Kc_X10_firstOf KS_X10_132 (by omega) (c_X10_firstOf 0 x24 s24) rfl rfl (Nat.le_of_ble_eq_true rfl) rfl dX10_crier_27) rfl (fun x27 s27 h27 => ?_)
    obtain ⟨es27, h27⟩ := h27
    have es27 := es27.symm
    subst es27
    exact G_iret C dX10_crier_30 (⟨RC_q hR fq_1, h27.trans (by unfold s_crier; rw [if_pos c3, h24.2, Sx21, Sx14]; rfl)⟩)
theorem dX6_add_0 : decode cX6_add 0 = .ok (.aload_n 0, 1) := by decide +kernel
theorem dX6_add_1 : decode cX6_add 1 = .ok (.getfield 15, 3) := by decide +kernel
theorem dX6_add_4 : decode cX6_add 4 = .ok (.sipush 160, 3) := by decide +kernel
theorem dX6_add_7 : decode cX6_add 7 = .ok (.if_icmp .ge 23, 3) := by decide +kernel
theorem dX6_add_10 : decode cX6_add 10 = .ok (.aload_n 0, 1) := by decide +kernel
theorem dX6_add_11 : decode cX6_add 11 = .ok (.getfield 9, 3) := by decide +kernel
theorem dX6_add_14 : decode cX6_add 14 = .ok (.aload_n 0, 1) := by decide +kernel
theorem dX6_add_15 : decode cX6_add 15 = .ok (.getfield 15, 3) := by decide +kernel
theorem dX6_add_18 : decode cX6_add 18 = .ok (.iload_n 1, 1) := by decide +kernel
theorem dX6_add_19 : decode cX6_add 19 = .ok (.iastore, 1) := by decide +kernel
theorem dX6_add_20 : decode cX6_add 20 = .ok (.aload_n 0, 1) := by decide +kernel
theorem dX6_add_21 : decode cX6_add 21 = .ok (.dup, 1) := by decide +kernel
theorem dX6_add_22 : decode cX6_add 22 = .ok (.getfield 15, 3) := by decide +kernel
theorem dX6_add_25 : decode cX6_add 25 = .ok (.iconst 1, 1) := by decide +kernel
theorem dX6_add_26 : decode cX6_add 26 = .ok (.iadd, 1) := by decide +kernel
theorem dX6_add_27 : decode cX6_add 27 = .ok (.putfield 15, 3) := by decide +kernel
theorem dX6_add_30 : decode cX6_add 30 = .ok (.return_, 1) := by decide +kernel
set_option maxHeartbeats 4000000 in
set_option maxRecDepth 100000 in
theorem c_X6_add (d : Nat) (s : gS) (tn : Nat) (hs : s 3 1 = nI tn) (htn : tn < 160) (v : Int32) : gMt SC yX6_add cX6_add 2 none (d + 1) (fun ad => [.ref (ad 3), .int v]) s (gQv SC (fun s' => s' = g_up (g_up s 4 tn v) 3 1 (s 3 1 + 1))) := by
  refine gMt_of SC_ok (by decide +kernel) (fun ad => [some (.ref (ad 3)), some (.int v)]) (fun _ => rfl) (fun _ => rfl) (fun _ => Nat.le_of_ble_eq_true rfl) (fun E C0 => ?_)
  have C : gCx SC E RX6 cX6_add 2 none (d + 1) := C0
  refine G_aload_n (i := 0) C 1 dX6_add_0 rfl rfl rfl ?_
  refine X6_15g C 4 dX6_add_1 rfl (fun x1 ex1 => ?_)
  have Sx1 : x1 = nI tn := ex1.trans (hs)
  refine G_sipush (v := 160) C 7 dX6_add_4 rfl rfl ?_
  refine G_icmp_ge C 30 10 dX6_add_7 rfl rfl (fun c7 => ?_) (fun c7 => ?_)
  ·
    have n7 : ¬ tn < 160 := fun h => c7 ((g_ltN (a := tn) (b := 160) (hx := Sx1) (hy := rfl) (by omega) (by omega)).mpr h)
    exfalso; omega
  ·
    have n7 : tn < 160 := (g_ltN (a := tn) (b := 160) (hx := Sx1) (hy := rfl) (by omega) (by omega)).mp c7
    refine G_aload_n (i := 0) C 11 dX6_add_10 rfl rfl rfl ?_
    refine X6_9g C 14 dX6_add_11 rfl ?_
    refine G_aload_n (i := 0) C 15 dX6_add_14 rfl rfl rfl ?_
    refine X6_15g C 18 dX6_add_15 rfl (fun x15 ex15 => ?_)
    have Sx15 : x15 = nI tn := ex15.trans (hs)
    refine G_iload_n (i := 1) C 19 dX6_add_18 rfl rfl rfl ?_
    refine G_iast (n := 160) C 20 (by decide) (fun σ => eTb _ _ σ) (tn) Sx15 (by omega) (by decide) (by decide) dX6_add_19 rfl (fun s19 es19 => ?_)
    refine G_aload_n (i := 0) C 21 dX6_add_20 rfl rfl rfl ?_
    refine G_dup C 22 dX6_add_21 rfl rfl ?_
    refine X6_15g C 25 dX6_add_22 rfl (fun x22 ex22 => ?_)
    have Sx22 : x22 = nI tn := ex22.trans ((by rw [es19, g_up_n (by decide)] : s19 3 1 = s 3 1).trans hs)
    refine G_iconst (v := 1) C 26 dX6_add_25 rfl rfl ?_
    refine G_iadd C 27 dX6_add_26 rfl (fun x26 ex26 => ?_)
    have Nx26 : x26 = nI (tn + 1) := g_addN ex26 Sx22 rfl
    refine X6_15p C 30 dX6_add_27 rfl (fun s27 es27 => ?_)
    exact G_vret C dX6_add_30 (by rw [es27, ex26, ex22, es19, g_up_n (by decide)])
theorem dX10_feed_0 : decode cX10_feed 0 = .ok (.iload_n 1, 1) := by decide +kernel
theorem dX10_feed_1 : decode cX10_feed 1 = .ok (.iconst 1, 1) := by decide +kernel
theorem dX10_feed_2 : decode cX10_feed 2 = .ok (.iconst 5, 1) := by decide +kernel
theorem dX10_feed_3 : decode cX10_feed 3 = .ok (.invokestatic 112, 3) := by decide +kernel
theorem dX10_feed_6 : decode cX10_feed 6 = .ok (.ifCond .eq 41, 3) := by decide +kernel
theorem dX10_feed_9 : decode cX10_feed 9 = .ok (.iload_n 2, 1) := by decide +kernel
theorem dX10_feed_10 : decode cX10_feed 10 = .ok (.invokestatic 135, 3) := by decide +kernel
theorem dX10_feed_13 : decode cX10_feed 13 = .ok (.ifCond .eq 34, 3) := by decide +kernel
theorem dX10_feed_16 : decode cX10_feed 16 = .ok (.iload_n 3, 1) := by decide +kernel
theorem dX10_feed_17 : decode cX10_feed 17 = .ok (.invokestatic 135, 3) := by decide +kernel
theorem dX10_feed_20 : decode cX10_feed 20 = .ok (.ifCond .eq 27, 3) := by decide +kernel
theorem dX10_feed_23 : decode cX10_feed 23 = .ok (.iload 4, 2) := by decide +kernel
theorem dX10_feed_25 : decode cX10_feed 25 = .ok (.invokestatic 135, 3) := by decide +kernel
theorem dX10_feed_28 : decode cX10_feed 28 = .ok (.ifCond .eq 19, 3) := by decide +kernel
theorem dX10_feed_31 : decode cX10_feed 31 = .ok (.iload 5, 2) := by decide +kernel
theorem dX10_feed_33 : decode cX10_feed 33 = .ok (.invokestatic 135, 3) := by decide +kernel
theorem dX10_feed_36 : decode cX10_feed 36 = .ok (.ifCond .eq 11, 3) := by decide +kernel
theorem dX10_feed_39 : decode cX10_feed 39 = .ok (.iload 6, 2) := by decide +kernel
theorem dX10_feed_41 : decode cX10_feed 41 = .ok (.invokestatic 135, 3) := by decide +kernel
theorem dX10_feed_44 : decode cX10_feed 44 = .ok (.ifCond .ne 6, 3) := by decide +kernel
theorem dX10_feed_47 : decode cX10_feed 47 = .ok (.bipush (-2), 2) := by decide +kernel
theorem dX10_feed_49 : decode cX10_feed 49 = .ok (.ireturn, 1) := by decide +kernel
theorem dX10_feed_50 : decode cX10_feed 50 = .ok (.aload_n 0, 1) := by decide +kernel
theorem dX10_feed_51 : decode cX10_feed 51 = .ok (.getfield 24, 3) := by decide +kernel
theorem dX10_feed_54 : decode cX10_feed 54 = .ok (.getfield 87, 3) := by decide +kernel
theorem dX10_feed_57 : decode cX10_feed 57 = .ok (.iload_n 1, 1) := by decide +kernel
theorem dX10_feed_58 : decode cX10_feed 58 = .ok (.iadd, 1) := by decide +kernel
theorem dX10_feed_59 : decode cX10_feed 59 = .ok (.sipush 160, 3) := by decide +kernel
theorem dX10_feed_62 : decode cX10_feed 62 = .ok (.if_icmp .le 6, 3) := by decide +kernel
theorem dX10_feed_65 : decode cX10_feed 65 = .ok (.bipush (-4), 2) := by decide +kernel
theorem dX10_feed_67 : decode cX10_feed 67 = .ok (.ireturn, 1) := by decide +kernel
theorem dX10_feed_68 : decode cX10_feed 68 = .ok (.iconst 0, 1) := by decide +kernel
theorem dX10_feed_69 : decode cX10_feed 69 = .ok (.istore 7, 2) := by decide +kernel
theorem dX10_feed_71 : decode cX10_feed 71 = .ok (.iload 7, 2) := by decide +kernel
theorem dX10_feed_73 : decode cX10_feed 73 = .ok (.iload_n 1, 1) := by decide +kernel
theorem dX10_feed_74 : decode cX10_feed 74 = .ok (.if_icmp .ge 59, 3) := by decide +kernel
theorem dX10_feed_77 : decode cX10_feed 77 = .ok (.aload_n 0, 1) := by decide +kernel
theorem dX10_feed_78 : decode cX10_feed 78 = .ok (.getfield 24, 3) := by decide +kernel
theorem dX10_feed_81 : decode cX10_feed 81 = .ok (.iload 7, 2) := by decide +kernel
theorem dX10_feed_83 : decode cX10_feed 83 = .ok (.ifCond .ne 7, 3) := by decide +kernel
theorem dX10_feed_86 : decode cX10_feed 86 = .ok (.iload_n 2, 1) := by decide +kernel
theorem dX10_feed_87 : decode cX10_feed 87 = .ok (.goto 37, 3) := by decide +kernel
theorem dX10_feed_90 : decode cX10_feed 90 = .ok (.iload 7, 2) := by decide +kernel
theorem dX10_feed_92 : decode cX10_feed 92 = .ok (.iconst 1, 1) := by decide +kernel
theorem dX10_feed_93 : decode cX10_feed 93 = .ok (.if_icmp .ne 7, 3) := by decide +kernel
theorem dX10_feed_96 : decode cX10_feed 96 = .ok (.iload_n 3, 1) := by decide +kernel
theorem dX10_feed_97 : decode cX10_feed 97 = .ok (.goto 27, 3) := by decide +kernel
theorem dX10_feed_100 : decode cX10_feed 100 = .ok (.iload 7, 2) := by decide +kernel
theorem dX10_feed_102 : decode cX10_feed 102 = .ok (.iconst 2, 1) := by decide +kernel
theorem dX10_feed_103 : decode cX10_feed 103 = .ok (.if_icmp .ne 8, 3) := by decide +kernel
theorem dX10_feed_106 : decode cX10_feed 106 = .ok (.iload 4, 2) := by decide +kernel
theorem dX10_feed_108 : decode cX10_feed 108 = .ok (.goto 16, 3) := by decide +kernel
theorem dX10_feed_111 : decode cX10_feed 111 = .ok (.iload 7, 2) := by decide +kernel
theorem dX10_feed_113 : decode cX10_feed 113 = .ok (.iconst 3, 1) := by decide +kernel
theorem dX10_feed_114 : decode cX10_feed 114 = .ok (.if_icmp .ne 8, 3) := by decide +kernel
theorem dX10_feed_117 : decode cX10_feed 117 = .ok (.iload 5, 2) := by decide +kernel
theorem dX10_feed_119 : decode cX10_feed 119 = .ok (.goto 5, 3) := by decide +kernel
theorem dX10_feed_122 : decode cX10_feed 122 = .ok (.iload 6, 2) := by decide +kernel
theorem dX10_feed_124 : decode cX10_feed 124 = .ok (.invokevirtual 79, 3) := by decide +kernel
theorem dX10_feed_127 : decode cX10_feed 127 = .ok (.iinc 7 1, 3) := by decide +kernel
theorem dX10_feed_130 : decode cX10_feed 130 = .ok (.goto (-59), 3) := by decide +kernel
theorem dX10_feed_133 : decode cX10_feed 133 = .ok (.aload_n 0, 1) := by decide +kernel
theorem dX10_feed_134 : decode cX10_feed 134 = .ok (.getfield 24, 3) := by decide +kernel
theorem dX10_feed_137 : decode cX10_feed 137 = .ok (.getfield 87, 3) := by decide +kernel
theorem dX10_feed_140 : decode cX10_feed 140 = .ok (.ireturn, 1) := by decide +kernel
set_option maxHeartbeats 4000000 in
set_option maxRecDepth 100000 in
theorem c_X10_feed (d : Nat) (TX : gTX) (P B s : gS) (hR0 : RC TX P B s) (m a1 a2 a3 a4 a5 : Int32) : gMt SC yX10_feed cX10_feed 8 (some .int) (d + 3) (fun ad => [.ref (ad 0), .int m, .int a1, .int a2, .int a3, .int a4, .int a5]) s (gQi SC (fun r s' => RC TX P (s_feedB B m a1 a2 a3 a4 a5) s' ∧ r = s_feedR B m a1 a2 a3 a4 a5)) := by
  obtain ⟨nT, n, l, hR⟩ := hR0
  have hI := hR.1
  have hn6 : n ≤ 6 := hI.2.2.1.2.1
  have hl6 : l < 6 := cI_l6 hI
  have hxn : x_n P = n := x_nOf hI.2.2.1.1 hn6
  have hbI := hR.2.2
  obtain ⟨tn, htn, etn⟩ := hbI.2.1
  refine gMt_of SC_ok (by decide +kernel) (fun ad => [some (.ref (ad 0)), some (.int m), some (.int a1), some (.int a2), some (.int a3), some (.int a4), some (.int a5), none]) (fun _ => rfl) (fun _ => rfl) (fun _ => Nat.le_of_ble_eq_true rfl) (fun E C0 => ?_)
  have C : gCx SC E RX10 cX10_feed 8 (some .int) (d + 3) := C0
  have r : Rc TX nT n l P B s := hR
  refine G_iload_n (i := 1) C 1 dX10_feed_0 rfl rfl rfl ?_
  refine G_iconst (v := 1) C 2 dX10_feed_1 rfl rfl ?_
  refine G_iconst (v := 5) C 3 dX10_feed_2 rfl rfl ?_
  refine G_calli 6 (G_runS C Kc_X10_within KS_X10_112 (by omega) (c_X10_within 0 m 1 5 s) rfl rfl (Nat.le_of_ble_eq_true rfl) rfl dX10_feed_3) rfl (fun x3 s3 h3 => ?_)
  obtain ⟨es3, h3⟩ := h3
  have es3 := es3.symm
  subst es3
  refine G_if_eq C 47 9 dX10_feed_6 rfl rfl (fun c6 => ?_) (fun c6 => ?_)
  ·
    have k6 := h3.symm.trans c6
    refine G_bipush (v := (-2)) C 49 dX10_feed_47 rfl rfl ?_
    exact G_iret C dX10_feed_49 (⟨by unfold s_feedB s_feedOk; rw [if_pos k6, if_pos rfl]; exact ⟨nT, n, l, hR⟩, by unfold s_feedR s_feedOk; rw [if_pos k6, if_pos rfl]⟩)
  ·
    have k6 := g_neT h3 c6
    obtain ⟨um, gum, hum, eum⟩ := x_inR1 (b := 5) k6 rfl (by decide)
    have cum : m.toNatClampNeg = um := by rw [eum, nI_clamp (by omega)]
    refine G_iload_n (i := 2) C 10 dX10_feed_9 rfl rfl rfl ?_
    refine G_calli 13 (G_runS C Kc_X10_isByte KS_X10_135 (by omega) (c_X10_isByte 0 a1 s) rfl rfl (Nat.le_of_ble_eq_true rfl) rfl dX10_feed_10) rfl (fun x10 s10 h10 => ?_)
    obtain ⟨es10, h10⟩ := h10
    have es10 := es10.symm
    subst es10
    refine G_if_eq C 47 16 dX10_feed_13 rfl rfl (fun c13 => ?_) (fun c13 => ?_)
    ·
      have k13 := h10.symm.trans c13
      refine G_bipush (v := (-2)) C 49 dX10_feed_47 rfl rfl ?_
      exact G_iret C dX10_feed_49 (⟨by unfold s_feedB s_feedOk; rw [if_neg k6, if_pos k13, if_pos rfl]; exact ⟨nT, n, l, hR⟩, by unfold s_feedR s_feedOk; rw [if_neg k6, if_pos k13, if_pos rfl]⟩)
    ·
      have k13 := g_neT h10 c13
      refine G_iload_n (i := 3) C 17 dX10_feed_16 rfl rfl rfl ?_
      refine G_calli 20 (G_runS C Kc_X10_isByte KS_X10_135 (by omega) (c_X10_isByte 0 a2 s) rfl rfl (Nat.le_of_ble_eq_true rfl) rfl dX10_feed_17) rfl (fun x17 s17 h17 => ?_)
      obtain ⟨es17, h17⟩ := h17
      have es17 := es17.symm
      subst es17
      refine G_if_eq C 47 23 dX10_feed_20 rfl rfl (fun c20 => ?_) (fun c20 => ?_)
      ·
        have k20 := h17.symm.trans c20
        refine G_bipush (v := (-2)) C 49 dX10_feed_47 rfl rfl ?_
        exact G_iret C dX10_feed_49 (⟨by unfold s_feedB s_feedOk; rw [if_neg k6, if_neg k13, if_pos k20, if_pos rfl]; exact ⟨nT, n, l, hR⟩, by unfold s_feedR s_feedOk; rw [if_neg k6, if_neg k13, if_pos k20, if_pos rfl]⟩)
      ·
        have k20 := g_neT h17 c20
        refine G_iload C 25 dX10_feed_23 rfl rfl ?_
        refine G_calli 28 (G_runS C Kc_X10_isByte KS_X10_135 (by omega) (c_X10_isByte 0 a3 s) rfl rfl (Nat.le_of_ble_eq_true rfl) rfl dX10_feed_25) rfl (fun x25 s25 h25 => ?_)
        obtain ⟨es25, h25⟩ := h25
        have es25 := es25.symm
        subst es25
        refine G_if_eq C 47 31 dX10_feed_28 rfl rfl (fun c28 => ?_) (fun c28 => ?_)
        ·
          have k28 := h25.symm.trans c28
          refine G_bipush (v := (-2)) C 49 dX10_feed_47 rfl rfl ?_
          exact G_iret C dX10_feed_49 (⟨by unfold s_feedB s_feedOk; rw [if_neg k6, if_neg k13, if_neg k20, if_pos k28, if_pos rfl]; exact ⟨nT, n, l, hR⟩, by unfold s_feedR s_feedOk; rw [if_neg k6, if_neg k13, if_neg k20, if_pos k28, if_pos rfl]⟩)
        ·
          have k28 := g_neT h25 c28
          refine G_iload C 33 dX10_feed_31 rfl rfl ?_
          refine G_calli 36 (G_runS C Kc_X10_isByte KS_X10_135 (by omega) (c_X10_isByte 0 a4 s) rfl rfl (Nat.le_of_ble_eq_true rfl) rfl dX10_feed_33) rfl (fun x33 s33 h33 => ?_)
          obtain ⟨es33, h33⟩ := h33
          have es33 := es33.symm
          subst es33
          refine G_if_eq C 47 39 dX10_feed_36 rfl rfl (fun c36 => ?_) (fun c36 => ?_)
          ·
            have k36 := h33.symm.trans c36
            refine G_bipush (v := (-2)) C 49 dX10_feed_47 rfl rfl ?_
            exact G_iret C dX10_feed_49 (⟨by unfold s_feedB s_feedOk; rw [if_neg k6, if_neg k13, if_neg k20, if_neg k28, if_pos k36, if_pos rfl]; exact ⟨nT, n, l, hR⟩, by unfold s_feedR s_feedOk; rw [if_neg k6, if_neg k13, if_neg k20, if_neg k28, if_pos k36, if_pos rfl]⟩)
          ·
            have k36 := g_neT h33 c36
            refine G_iload C 41 dX10_feed_39 rfl rfl ?_
            refine G_calli 44 (G_runS C Kc_X10_isByte KS_X10_135 (by omega) (c_X10_isByte 0 a5 s) rfl rfl (Nat.le_of_ble_eq_true rfl) rfl dX10_feed_41) rfl (fun x41 s41 h41 => ?_)
            obtain ⟨es41, h41⟩ := h41
            have es41 := es41.symm
            subst es41
            refine G_if_ne C 50 47 dX10_feed_44 rfl rfl (fun c44 => ?_) (fun c44 => ?_)
            ·
              have k44 := g_neT h41 c44
              refine G_aload_n (i := 0) C 51 dX10_feed_50 rfl rfl rfl ?_
              refine X10_24g C 54 dX10_feed_51 rfl ?_
              refine X10_87g C 57 dX10_feed_54 rfl (fun x54 ex54 => ?_)
              have Sx54 : x54 = B 0 1 := ex54.trans (congrFun (congrFun r.2.1 0) 1)
              refine G_iload_n (i := 1) C 58 dX10_feed_57 rfl rfl rfl ?_
              refine G_iadd C 59 dX10_feed_58 rfl (fun x58 ex58 => ?_)
              have Nx58 : x58 = nI (tn + um) := g_addN ex58 (Sx54.trans etn) eum
              refine G_sipush (v := 160) C 62 dX10_feed_59 rfl rfl ?_
              refine G_icmp_le C 68 65 dX10_feed_62 rfl rfl (fun c62 => ?_) (fun c62 => ?_)
              ·
                have n62 : ¬ 160 < (tn + um) := fun h => c62 ((g_ltN (a := 160) (b := (tn + um)) (hx := rfl) (hy := Nx58) (by omega) (by omega)).mpr h)
                refine G_iconst (v := 0) C 69 dX10_feed_68 rfl rfl ?_
                refine G_istore (L' := [some (.ref (e_ad E 0)), some (.int m), some (.int a1), some (.int a2), some (.int a3), some (.int a4), some (.int a5), some (.int 0)]) C 71 dX10_feed_69 rfl (Nat.le_of_ble_eq_true rfl) rfl rfl ?_
                have L71 : ∀ (f71 : Nat) (k : Nat) (y : Int32) (sl71 : gS) (Ey : y = nI k) (hk : k ≤ um) (rl71 : Rc TX nT n l P (s_feedN B a1 a2 a3 a4 a5 k) sl71), um < k + f71 → GW SC E (gFin SC E (gQi SC (fun r s' => RC TX P (s_feedB B m a1 a2 a3 a4 a5) s' ∧ r = s_feedR B m a1 a2 a3 a4 a5))) 71 [some (.ref (e_ad E 0)), some (.int m), some (.int a1), some (.int a2), some (.int a3), some (.int a4), some (.int a5), some (.int y)] [] sl71 := by
                  intro f71
                  induction f71 with
                  | zero =>
                    intro k y sl71 Ey hk rl71 hf71
                    exact absurd hf71 (by omega)
                  | succ f71 ih71 =>
                    intro k y sl71 Ey hk rl71 hf71
                    refine G_iload C 73 dX10_feed_71 rfl rfl ?_
                    refine G_iload_n (i := 1) C 74 dX10_feed_73 rfl rfl rfl ?_
                    refine G_icmp_ge C 133 77 dX10_feed_74 rfl rfl (fun c74 => ?_) (fun c74 => ?_)
                    ·
                      have n74 : ¬ k < um := fun h => c74 ((g_ltN (a := k) (b := um) (hx := Ey) (hy := eum) (by omega) (by omega)).mpr h)
                      refine G_aload_n (i := 0) C 134 dX10_feed_133 rfl rfl rfl ?_
                      refine X10_24g C 137 dX10_feed_134 rfl ?_
                      refine X10_87g C 140 dX10_feed_137 rfl (fun x137 ex137 => ?_)
                      exact G_iret C dX10_feed_140 (⟨by unfold s_feedB s_feedOk; rw [if_neg k6, if_neg k13, if_neg k20, if_neg k28, if_neg k36, if_neg k44, ← Sx54, ← ex58, if_neg c62, cum, show um = k by omega]; exact ⟨nT, n, l, rl71⟩, by unfold s_feedR s_feedOk; rw [if_neg k6, if_neg k13, if_neg k20, if_neg k28, if_neg k36, if_neg k44, ← Sx54, ← ex58, if_neg c62, ex137, ex58]; rw [show sl71 3 1 = cB sl71 0 1 from rfl, rl71.2.1, s_feed01 B a1 a2 a3 a4 a5 etn, Sx54, etn, eum, show um = k by omega, nI_add]⟩)
                    ·
                      have n74 : k < um := (g_ltN (a := k) (b := um) (hx := Ey) (hy := eum) (by omega) (by omega)).mp c74
                      refine G_aload_n (i := 0) C 78 dX10_feed_77 rfl rfl rfl ?_
                      refine X10_24g C 81 dX10_feed_78 rfl ?_
                      refine G_iload C 83 dX10_feed_81 rfl rfl ?_
                      refine G_if_ne C 90 86 dX10_feed_83 rfl rfl (fun c83 => ?_) (fun c83 => ?_)
                      ·
                        have n83 : ¬ k = 0 := fun h => c83 ((g_eqN (a := k) (b := 0) (hx := Ey) (hy := rfl) (by omega) (by omega)).mpr h)
                        refine G_iload C 92 dX10_feed_90 rfl rfl ?_
                        refine G_iconst (v := 1) C 93 dX10_feed_92 rfl rfl ?_
                        refine G_icmp_ne C 100 96 dX10_feed_93 rfl rfl (fun c93 => ?_) (fun c93 => ?_)
                        ·
                          have n93 : ¬ k = 1 := fun h => c93 ((g_eqN (a := k) (b := 1) (hx := Ey) (hy := rfl) (by omega) (by omega)).mpr h)
                          refine G_iload C 102 dX10_feed_100 rfl rfl ?_
                          refine G_iconst (v := 2) C 103 dX10_feed_102 rfl rfl ?_
                          refine G_icmp_ne C 111 106 dX10_feed_103 rfl rfl (fun c103 => ?_) (fun c103 => ?_)
                          ·
                            have n103 : ¬ k = 2 := fun h => c103 ((g_eqN (a := k) (b := 2) (hx := Ey) (hy := rfl) (by omega) (by omega)).mpr h)
                            refine G_iload C 113 dX10_feed_111 rfl rfl ?_
                            refine G_iconst (v := 3) C 114 dX10_feed_113 rfl rfl ?_
                            refine G_icmp_ne C 122 117 dX10_feed_114 rfl rfl (fun c114 => ?_) (fun c114 => ?_)
                            ·
                              have n114 : ¬ k = 3 := fun h => c114 ((g_eqN (a := k) (b := 3) (hx := Ey) (hy := rfl) (by omega) (by omega)).mpr h)
                              refine G_iload C 124 dX10_feed_122 rfl rfl ?_
                              refine G_callv 127 (G_runV C Kc_X6_add KV_X10_79 (by omega) (by decide) (eTp _ _ _) rfl (c_X6_add 0 sl71 (tn + k) (by rw [show sl71 3 1 = cB sl71 0 1 from rfl, rl71.2.1]; exact s_feed01 B a1 a2 a3 a4 a5 etn k) (by omega) a5) rfl rfl rfl (Nat.le_of_ble_eq_true rfl) rfl dX10_feed_124) rfl (fun s124 h124 => ?_)
                              have r_1 : Rc TX nT n l P (s_feedN B a1 a2 a3 a4 a5 (k + 1)) s124 := by
                                      have hp : s_pick k a1 a2 a3 a4 a5 = a5 := by unfold s_pick; rw [if_neg n83, if_neg n93, if_neg n103, if_neg n114]
                                      rw [s_feedN, hp]
                                      exact Rc_add rl71 (s_feed01 B a1 a2 a3 a4 a5 etn k) (by omega) (by obtain ⟨z, hz, ez⟩ := x_inR (b := 255) k44 rfl (by decide); exact ⟨z, by omega, ez⟩) h124
                              refine G_iinc (w := 1) C 130 dX10_feed_127 rfl rfl rfl rfl (fun x127 ex127 => ?_)
                              have Nx127 : x127 = nI (k + 1) := g_addN ex127 Ey rfl
                              show GW SC E _ 130 [some (.ref (e_ad E 0)), some (.int m), some (.int a1), some (.int a2), some (.int a3), some (.int a4), some (.int a5), some (.int x127)] [] s124
                              refine G_goto C 71 dX10_feed_130 rfl ?_
                              exact ih71 (k + 1) x127 s124 (g_cn (a := (k + 1)) Nx127 (by first | rfl | omega | (simp only [List.length_cons, List.length_drop]; done) | (simp only [List.length_cons, List.length_drop]; omega))) (by omega) (r_1) (by omega)
                            ·
                              have n114 : k = 3 := (g_eqN (a := k) (b := 3) (hx := Ey) (hy := rfl) (by omega) (by omega)).mp c114
                              refine G_iload C 119 dX10_feed_117 rfl rfl ?_
                              refine G_goto C 124 dX10_feed_119 rfl ?_
                              refine G_callv 127 (G_runV C Kc_X6_add KV_X10_79 (by omega) (by decide) (eTp _ _ _) rfl (c_X6_add 0 sl71 (tn + k) (by rw [show sl71 3 1 = cB sl71 0 1 from rfl, rl71.2.1]; exact s_feed01 B a1 a2 a3 a4 a5 etn k) (by omega) a4) rfl rfl rfl (Nat.le_of_ble_eq_true rfl) rfl dX10_feed_124) rfl (fun s124 h124 => ?_)
                              have r_1 : Rc TX nT n l P (s_feedN B a1 a2 a3 a4 a5 (k + 1)) s124 := by
                                      have hp : s_pick k a1 a2 a3 a4 a5 = a4 := by unfold s_pick; rw [if_neg n83, if_neg n93, if_neg n103, if_pos n114]
                                      rw [s_feedN, hp]
                                      exact Rc_add rl71 (s_feed01 B a1 a2 a3 a4 a5 etn k) (by omega) (by obtain ⟨z, hz, ez⟩ := x_inR (b := 255) k36 rfl (by decide); exact ⟨z, by omega, ez⟩) h124
                              refine G_iinc (w := 1) C 130 dX10_feed_127 rfl rfl rfl rfl (fun x127 ex127 => ?_)
                              have Nx127 : x127 = nI (k + 1) := g_addN ex127 Ey rfl
                              show GW SC E _ 130 [some (.ref (e_ad E 0)), some (.int m), some (.int a1), some (.int a2), some (.int a3), some (.int a4), some (.int a5), some (.int x127)] [] s124
                              refine G_goto C 71 dX10_feed_130 rfl ?_
                              exact ih71 (k + 1) x127 s124 (g_cn (a := (k + 1)) Nx127 (by first | rfl | omega | (simp only [List.length_cons, List.length_drop]; done) | (simp only [List.length_cons, List.length_drop]; omega))) (by omega) (r_1) (by omega)
                          ·
                            have n103 : k = 2 := (g_eqN (a := k) (b := 2) (hx := Ey) (hy := rfl) (by omega) (by omega)).mp c103
                            refine G_iload C 108 dX10_feed_106 rfl rfl ?_
                            refine G_goto C 124 dX10_feed_108 rfl ?_
                            refine G_callv 127 (G_runV C Kc_X6_add KV_X10_79 (by omega) (by decide) (eTp _ _ _) rfl (c_X6_add 0 sl71 (tn + k) (by rw [show sl71 3 1 = cB sl71 0 1 from rfl, rl71.2.1]; exact s_feed01 B a1 a2 a3 a4 a5 etn k) (by omega) a3) rfl rfl rfl (Nat.le_of_ble_eq_true rfl) rfl dX10_feed_124) rfl (fun s124 h124 => ?_)
                            have r_1 : Rc TX nT n l P (s_feedN B a1 a2 a3 a4 a5 (k + 1)) s124 := by
                                    have hp : s_pick k a1 a2 a3 a4 a5 = a3 := by unfold s_pick; rw [if_neg n83, if_neg n93, if_pos n103]
                                    rw [s_feedN, hp]
                                    exact Rc_add rl71 (s_feed01 B a1 a2 a3 a4 a5 etn k) (by omega) (by obtain ⟨z, hz, ez⟩ := x_inR (b := 255) k28 rfl (by decide); exact ⟨z, by omega, ez⟩) h124
                            refine G_iinc (w := 1) C 130 dX10_feed_127 rfl rfl rfl rfl (fun x127 ex127 => ?_)
                            have Nx127 : x127 = nI (k + 1) := g_addN ex127 Ey rfl
                            show GW SC E _ 130 [some (.ref (e_ad E 0)), some (.int m), some (.int a1), some (.int a2), some (.int a3), some (.int a4), some (.int a5), some (.int x127)] [] s124
                            refine G_goto C 71 dX10_feed_130 rfl ?_
                            exact ih71 (k + 1) x127 s124 (g_cn (a := (k + 1)) Nx127 (by first | rfl | omega | (simp only [List.length_cons, List.length_drop]; done) | (simp only [List.length_cons, List.length_drop]; omega))) (by omega) (r_1) (by omega)
                        ·
                          have n93 : k = 1 := (g_eqN (a := k) (b := 1) (hx := Ey) (hy := rfl) (by omega) (by omega)).mp c93
                          refine G_iload_n (i := 3) C 97 dX10_feed_96 rfl rfl rfl ?_
                          refine G_goto C 124 dX10_feed_97 rfl ?_
                          refine G_callv 127 (G_runV C Kc_X6_add KV_X10_79 (by omega) (by decide) (eTp _ _ _) rfl (c_X6_add 0 sl71 (tn + k) (by rw [show sl71 3 1 = cB sl71 0 1 from rfl, rl71.2.1]; exact s_feed01 B a1 a2 a3 a4 a5 etn k) (by omega) a2) rfl rfl rfl (Nat.le_of_ble_eq_true rfl) rfl dX10_feed_124) rfl (fun s124 h124 => ?_)
                          have r_1 : Rc TX nT n l P (s_feedN B a1 a2 a3 a4 a5 (k + 1)) s124 := by
                                  have hp : s_pick k a1 a2 a3 a4 a5 = a2 := by unfold s_pick; rw [if_neg n83, if_pos n93]
                                  rw [s_feedN, hp]
                                  exact Rc_add rl71 (s_feed01 B a1 a2 a3 a4 a5 etn k) (by omega) (by obtain ⟨z, hz, ez⟩ := x_inR (b := 255) k20 rfl (by decide); exact ⟨z, by omega, ez⟩) h124
                          refine G_iinc (w := 1) C 130 dX10_feed_127 rfl rfl rfl rfl (fun x127 ex127 => ?_)
                          have Nx127 : x127 = nI (k + 1) := g_addN ex127 Ey rfl
                          show GW SC E _ 130 [some (.ref (e_ad E 0)), some (.int m), some (.int a1), some (.int a2), some (.int a3), some (.int a4), some (.int a5), some (.int x127)] [] s124
                          refine G_goto C 71 dX10_feed_130 rfl ?_
                          exact ih71 (k + 1) x127 s124 (g_cn (a := (k + 1)) Nx127 (by first | rfl | omega | (simp only [List.length_cons, List.length_drop]; done) | (simp only [List.length_cons, List.length_drop]; omega))) (by omega) (r_1) (by omega)
                      ·
                        have n83 : k = 0 := (g_eqN (a := k) (b := 0) (hx := Ey) (hy := rfl) (by omega) (by omega)).mp c83
                        refine G_iload_n (i := 2) C 87 dX10_feed_86 rfl rfl rfl ?_
                        refine G_goto C 124 dX10_feed_87 rfl ?_
                        refine G_callv 127 (G_runV C Kc_X6_add KV_X10_79 (by omega) (by decide) (eTp _ _ _) rfl (c_X6_add 0 sl71 (tn + k) (by rw [show sl71 3 1 = cB sl71 0 1 from rfl, rl71.2.1]; exact s_feed01 B a1 a2 a3 a4 a5 etn k) (by omega) a1) rfl rfl rfl (Nat.le_of_ble_eq_true rfl) rfl dX10_feed_124) rfl (fun s124 h124 => ?_)
                        have r_1 : Rc TX nT n l P (s_feedN B a1 a2 a3 a4 a5 (k + 1)) s124 := by
                                have hp : s_pick k a1 a2 a3 a4 a5 = a1 := by unfold s_pick; rw [if_pos n83]
                                rw [s_feedN, hp]
                                exact Rc_add rl71 (s_feed01 B a1 a2 a3 a4 a5 etn k) (by omega) (by obtain ⟨z, hz, ez⟩ := x_inR (b := 255) k13 rfl (by decide); exact ⟨z, by omega, ez⟩) h124
                        refine G_iinc (w := 1) C 130 dX10_feed_127 rfl rfl rfl rfl (fun x127 ex127 => ?_)
                        have Nx127 : x127 = nI (k + 1) := g_addN ex127 Ey rfl
                        show GW SC E _ 130 [some (.ref (e_ad E 0)), some (.int m), some (.int a1), some (.int a2), some (.int a3), some (.int a4), some (.int a5), some (.int x127)] [] s124
                        refine G_goto C 71 dX10_feed_130 rfl ?_
                        exact ih71 (k + 1) x127 s124 (g_cn (a := (k + 1)) Nx127 (by first | rfl | omega | (simp only [List.length_cons, List.length_drop]; done) | (simp only [List.length_cons, List.length_drop]; omega))) (by omega) (r_1) (by omega)
                exact L71 (um + 1) 0 0 s (g_cn (a := 0) rfl (by first | rfl | omega)) (by omega) (r) (by omega)
              ·
                have n62 : 160 < (tn + um) := (g_ltN (a := 160) (b := (tn + um)) (hx := rfl) (hy := Nx58) (by omega) (by omega)).mp c62
                refine G_bipush (v := (-4)) C 67 dX10_feed_65 rfl rfl ?_
                exact G_iret C dX10_feed_67 (⟨by unfold s_feedB s_feedOk; rw [if_neg k6, if_neg k13, if_neg k20, if_neg k28, if_neg k36, if_neg k44, ← Sx54, ← ex58, if_pos c62]; exact ⟨nT, n, l, hR⟩, by unfold s_feedR s_feedOk; rw [if_neg k6, if_neg k13, if_neg k20, if_neg k28, if_neg k36, if_neg k44, ← Sx54, ← ex58, if_pos c62]⟩)
            ·
              have k44 := h41.symm.trans c44
              refine G_bipush (v := (-2)) C 49 dX10_feed_47 rfl rfl ?_
              exact G_iret C dX10_feed_49 (⟨by unfold s_feedB s_feedOk; rw [if_neg k6, if_neg k13, if_neg k20, if_neg k28, if_neg k36, if_pos k44]; exact ⟨nT, n, l, hR⟩, by unfold s_feedR s_feedOk; rw [if_neg k6, if_neg k13, if_neg k20, if_neg k28, if_neg k36, if_pos k44]⟩)
theorem dX10_force_0 : decode cX10_force 0 = .ok (.iload_n 1, 1) := by decide +kernel
theorem dX10_force_1 : decode cX10_force 1 = .ok (.iconst 0, 1) := by decide +kernel
theorem dX10_force_2 : decode cX10_force 2 = .ok (.aload_n 0, 1) := by decide +kernel
theorem dX10_force_3 : decode cX10_force 3 = .ok (.getfield 91, 3) := by decide +kernel
theorem dX10_force_6 : decode cX10_force 6 = .ok (.iconst 1, 1) := by decide +kernel
theorem dX10_force_7 : decode cX10_force 7 = .ok (.isub, 1) := by decide +kernel
theorem dX10_force_8 : decode cX10_force 8 = .ok (.invokestatic 112, 3) := by decide +kernel
theorem dX10_force_11 : decode cX10_force 11 = .ok (.ifCond .ne 6, 3) := by decide +kernel
theorem dX10_force_14 : decode cX10_force 14 = .ok (.bipush (-2), 2) := by decide +kernel
theorem dX10_force_16 : decode cX10_force 16 = .ok (.ireturn, 1) := by decide +kernel
theorem dX10_force_17 : decode cX10_force 17 = .ok (.aload_n 0, 1) := by decide +kernel
theorem dX10_force_18 : decode cX10_force 18 = .ok (.getfield 57, 3) := by decide +kernel
theorem dX10_force_21 : decode cX10_force 21 = .ok (.getfield 109, 3) := by decide +kernel
theorem dX10_force_24 : decode cX10_force 24 = .ok (.istore_n 2, 1) := by decide +kernel
theorem dX10_force_25 : decode cX10_force 25 = .ok (.aload_n 0, 1) := by decide +kernel
theorem dX10_force_26 : decode cX10_force 26 = .ok (.getfield 57, 3) := by decide +kernel
theorem dX10_force_29 : decode cX10_force 29 = .ok (.iload_n 1, 1) := by decide +kernel
theorem dX10_force_30 : decode cX10_force 30 = .ok (.putfield 109, 3) := by decide +kernel
theorem dX10_force_33 : decode cX10_force 33 = .ok (.iload_n 2, 1) := by decide +kernel
theorem dX10_force_34 : decode cX10_force 34 = .ok (.ireturn, 1) := by decide +kernel
set_option maxHeartbeats 4000000 in
set_option maxRecDepth 100000 in
theorem c_X10_force (d : Nat) (TX : gTX) (P B s : gS) (hR0 : RC TX P B s) (t : Int32) : gMt SC yX10_force cX10_force 3 (some .int) (d + 2) (fun ad => [.ref (ad 0), .int t]) s (gQi SC (fun r s' => RC TX (s_foP P B t) B s' ∧ r = s_foR P B t)) := by
  obtain ⟨nT, n, l, hR⟩ := hR0
  have hI := hR.1
  have hn6 : n ≤ 6 := hI.2.2.1.2.1
  have hl6 : l < 6 := cI_l6 hI
  have hxn : x_n P = n := x_nOf hI.2.2.1.1 hn6
  have hbI := hR.2.2
  refine gMt_of SC_ok (by decide +kernel) (fun ad => [some (.ref (ad 0)), some (.int t), none]) (fun _ => rfl) (fun _ => rfl) (fun _ => Nat.le_of_ble_eq_true rfl) (fun E C0 => ?_)
  have C : gCx SC E RX10 cX10_force 3 (some .int) (d + 2) := C0
  have i : cI TX nT n l 45 P s := hI
  have f : Fr (mW 45) s s := Fr.rf
  refine G_iload_n (i := 1) C 1 dX10_force_0 rfl rfl rfl ?_
  refine G_iconst (v := 0) C 2 dX10_force_1 rfl rfl ?_
  refine G_aload_n (i := 0) C 3 dX10_force_2 rfl rfl rfl ?_
  refine X10_91g C 6 dX10_force_3 rfl (fun x3 ex3 => ?_)
  have Sx3 : x3 = nI nT := ex3.trans ((congrFun (congrFun hR.2.1 0) 0).trans hbI.1)
  refine G_iconst (v := 1) C 7 dX10_force_6 rfl rfl ?_
  refine G_isub C 8 dX10_force_7 rfl (fun x7 ex7 => ?_)
  refine G_calli 11 (G_runS C Kc_X10_within KS_X10_112 (by omega) (c_X10_within 0 t 0 x7 s) rfl rfl (Nat.le_of_ble_eq_true rfl) rfl dX10_force_8) rfl (fun x8 s8 h8 => ?_)
  obtain ⟨es8, h8⟩ := h8
  have es8 := es8.symm
  subst es8
  refine G_if_ne C 17 14 dX10_force_11 rfl rfl (fun c11 => ?_) (fun c11 => ?_)
  ·
    have k11 := g_neT h8 c11
    have kz : ¬ x_one t nT = 0 := by rw [← y_one hI.2.2.1.2.2.2.2.1, ← Sx3, ← ex7]; exact k11
    obtain ⟨ut, hut, eut⟩ := x_oneT hI.2.2.1.2.2.2.2.1 kz
    have hz : ¬ x_in t 0 (B 0 0 - 1) = 0 := by rw [hbI.1, ← Sx3, ← ex7]; exact k11
    refine G_aload_n (i := 0) C 18 dX10_force_17 rfl rfl rfl ?_
    refine X10_57g C 21 dX10_force_18 rfl ?_
    refine X10_109g C (Or.inl rfl) 24 dX10_force_21 rfl (fun x21 ex21 => ?_)
    have Sx21 : x21 = nI l := ex21.trans ((cI_v i 0 3).trans i.2.2.1.2.2.1)
    refine G_istore_n (i := 2) (L' := [some (.ref (e_ad E 0)), some (.int t), some (.int x21)]) C 25 dX10_force_24 rfl rfl (Nat.le_of_ble_eq_true rfl) rfl rfl ?_
    refine G_aload_n (i := 0) C 26 dX10_force_25 rfl rfl rfl ?_
    refine X10_57g C 29 dX10_force_26 rfl ?_
    refine G_iload_n (i := 1) C 30 dX10_force_29 rfl rfl rfl ?_
    refine X10_109p C (Or.inl rfl) 33 dX10_force_30 rfl (fun s30 es30 => ?_)
    have f_1 : Fr (mW 45) s s30 := Fr.tr f (Fr.upW (i := 0) es30 (by decide))
    refine G_iload_n (i := 2) C 34 dX10_force_33 rfl rfl rfl ?_
    exact G_iret C dX10_force_34 (⟨by unfold s_foP; rw [if_neg hz]; exact RC_up hR (cI_lawU hI es30 eut hut) f_1 rfl rfl (eI_of hbI.2.2.2.2.2.1 rfl), by unfold s_foR; rw [if_neg hz, Sx21]; exact hI.2.2.1.2.2.1.symm⟩)
  ·
    have k11 := h8.symm.trans c11
    have hz : x_in t 0 (B 0 0 - 1) = 0 := by rw [hbI.1, ← Sx3, ← ex7]; exact k11
    refine G_bipush (v := (-2)) C 16 dX10_force_14 rfl rfl ?_
    exact G_iret C dX10_force_16 (⟨by unfold s_foP; rw [if_pos hz]; exact ⟨nT, n, l, hR⟩, by unfold s_foR; rw [if_pos hz]⟩)
theorem dX10_asks_0 : decode cX10_asks 0 = .ok (.iload_n 1, 1) := by decide +kernel
theorem dX10_asks_1 : decode cX10_asks 1 = .ok (.iconst 0, 1) := by decide +kernel
theorem dX10_asks_2 : decode cX10_asks 2 = .ok (.iconst 2, 1) := by decide +kernel
theorem dX10_asks_3 : decode cX10_asks 3 = .ok (.invokestatic 112, 3) := by decide +kernel
theorem dX10_asks_6 : decode cX10_asks 6 = .ok (.ifCond .eq 24, 3) := by decide +kernel
theorem dX10_asks_9 : decode cX10_asks 9 = .ok (.aload_n 0, 1) := by decide +kernel
theorem dX10_asks_10 : decode cX10_asks 10 = .ok (.getfield 57, 3) := by decide +kernel
theorem dX10_asks_13 : decode cX10_asks 13 = .ok (.iload_n 2, 1) := by decide +kernel
theorem dX10_asks_14 : decode cX10_asks 14 = .ok (.invokevirtual 139, 3) := by decide +kernel
theorem dX10_asks_17 : decode cX10_asks 17 = .ok (.ifCond .eq 13, 3) := by decide +kernel
theorem dX10_asks_20 : decode cX10_asks 20 = .ok (.iload_n 3, 1) := by decide +kernel
theorem dX10_asks_21 : decode cX10_asks 21 = .ok (.iconst (-1), 1) := by decide +kernel
theorem dX10_asks_22 : decode cX10_asks 22 = .ok (.bipush 9, 2) := by decide +kernel
theorem dX10_asks_24 : decode cX10_asks 24 = .ok (.invokestatic 112, 3) := by decide +kernel
theorem dX10_asks_27 : decode cX10_asks 27 = .ok (.ifCond .ne 7, 3) := by decide +kernel
theorem dX10_asks_30 : decode cX10_asks 30 = .ok (.sipush (-1000), 3) := by decide +kernel
theorem dX10_asks_33 : decode cX10_asks 33 = .ok (.ireturn, 1) := by decide +kernel
theorem dX10_asks_34 : decode cX10_asks 34 = .ok (.aload_n 0, 1) := by decide +kernel
theorem dX10_asks_35 : decode cX10_asks 35 = .ok (.getfield 57, 3) := by decide +kernel
theorem dX10_asks_38 : decode cX10_asks 38 = .ok (.iload_n 1, 1) := by decide +kernel
theorem dX10_asks_39 : decode cX10_asks 39 = .ok (.iload_n 2, 1) := by decide +kernel
theorem dX10_asks_40 : decode cX10_asks 40 = .ok (.iload_n 3, 1) := by decide +kernel
theorem dX10_asks_41 : decode cX10_asks 41 = .ok (.iconst (-1), 1) := by decide +kernel
theorem dX10_asks_42 : decode cX10_asks 42 = .ok (.if_icmp .ne 7, 3) := by decide +kernel
theorem dX10_asks_45 : decode cX10_asks 45 = .ok (.iconst 0, 1) := by decide +kernel
theorem dX10_asks_46 : decode cX10_asks 46 = .ok (.goto 12, 3) := by decide +kernel
theorem dX10_asks_49 : decode cX10_asks 49 = .ok (.aload_n 0, 1) := by decide +kernel
theorem dX10_asks_50 : decode cX10_asks 50 = .ok (.getfield 57, 3) := by decide +kernel
theorem dX10_asks_53 : decode cX10_asks 53 = .ok (.getfield 125, 3) := by decide +kernel
theorem dX10_asks_56 : decode cX10_asks 56 = .ok (.iload_n 3, 1) := by decide +kernel
theorem dX10_asks_57 : decode cX10_asks 57 = .ok (.iaload, 1) := by decide +kernel
theorem dX10_asks_58 : decode cX10_asks 58 = .ok (.invokevirtual 142, 3) := by decide +kernel
theorem dX10_asks_61 : decode cX10_asks 61 = .ok (.ireturn, 1) := by decide +kernel
set_option maxHeartbeats 4000000 in
set_option maxRecDepth 100000 in
theorem c_X10_asks (d : Nat) (TX : gTX) (P B s : gS) (hR0 : RC TX P B s) (q p t : Int32) : gMt SC yX10_asks cX10_asks 4 (some .int) (d + 5) (fun ad => [.ref (ad 0), .int q, .int p, .int t]) s (gQi SC (fun r s' => RC TX P B s' ∧ r = s_asks TX P q p t)) := by
  obtain ⟨nT, n, l, hR⟩ := hR0
  have hI := hR.1
  have hn6 : n ≤ 6 := hI.2.2.1.2.1
  have hl6 : l < 6 := cI_l6 hI
  have hxn : x_n P = n := x_nOf hI.2.2.1.1 hn6
  have hbI := hR.2.2
  refine gMt_of SC_ok (by decide +kernel) (fun ad => [some (.ref (ad 0)), some (.int q), some (.int p), some (.int t)]) (fun _ => rfl) (fun _ => rfl) (fun _ => Nat.le_of_ble_eq_true rfl) (fun E C0 => ?_)
  have C : gCx SC E RX10 cX10_asks 4 (some .int) (d + 5) := C0
  have fm : cI TX nT n l 45 P s := hI
  have fq : Fr mQ s s := Fr.rf
  refine G_iload_n (i := 1) C 1 dX10_asks_0 rfl rfl rfl ?_
  refine G_iconst (v := 0) C 2 dX10_asks_1 rfl rfl ?_
  refine G_iconst (v := 2) C 3 dX10_asks_2 rfl rfl ?_
  refine G_calli 6 (G_runS C Kc_X10_within KS_X10_112 (by omega) (c_X10_within 0 q 0 2 s) rfl rfl (Nat.le_of_ble_eq_true rfl) rfl dX10_asks_3) rfl (fun x3 s3 h3 => ?_)
  obtain ⟨es3, h3⟩ := h3
  have es3 := es3.symm
  subst es3
  refine G_if_eq C 30 9 dX10_asks_6 rfl rfl (fun c6 => ?_) (fun c6 => ?_)
  ·
    have k6 := h3.symm.trans c6
    refine G_sipush (v := (-1000)) C 33 dX10_asks_30 rfl rfl ?_
    exact G_iret C dX10_asks_33 (⟨RC_q hR fq, by unfold s_asks; rw [if_pos k6]⟩)
  ·
    have k6 := g_neT h3 c6
    obtain ⟨uq, huq, euq⟩ := x_inR (b := 2) k6 rfl (by decide)
    have cuq : q.toNatClampNeg = uq := by rw [euq, nI_clamp (by omega)]
    refine G_aload_n (i := 0) C 10 dX10_asks_9 rfl rfl rfl ?_
    refine X10_57g C 13 dX10_asks_10 rfl ?_
    refine G_iload_n (i := 2) C 14 dX10_asks_13 rfl rfl rfl ?_
    refine G_calli 17 (G_runV C Kc_X9_isOne KV_X10_139 (by omega) (lW0 (Or.inl rfl)) (eW _ _ _ (Or.inl rfl)) rfl (c_X9_isOne 0 45 n (Or.inl rfl) s (cI_n fm) p) rfl rfl rfl (Nat.le_of_ble_eq_true rfl) rfl dX10_asks_14) rfl (fun x14 s14 h14 => ?_)
    obtain ⟨es14, h14⟩ := h14
    have es14 := es14.symm
    subst es14
    refine G_if_eq C 30 20 dX10_asks_17 rfl rfl (fun c17 => ?_) (fun c17 => ?_)
    ·
      have k17 := h14.symm.trans c17
      refine G_sipush (v := (-1000)) C 33 dX10_asks_30 rfl rfl ?_
      exact G_iret C dX10_asks_33 (⟨RC_q hR fq, by unfold s_asks; rw [if_neg k6, hxn, if_pos k17]⟩)
    ·
      have k17 := g_neT h14 c17
      obtain ⟨up, hup, eup⟩ := x_oneT hn6 k17
      have cup : p.toNatClampNeg = up := by rw [eup, nI_clamp (by omega)]
      refine G_iload_n (i := 3) C 21 dX10_asks_20 rfl rfl rfl ?_
      refine G_iconst (v := (-1)) C 22 dX10_asks_21 rfl rfl ?_
      refine G_bipush (v := 9) C 24 dX10_asks_22 rfl rfl ?_
      refine G_calli 27 (G_runS C Kc_X10_within KS_X10_112 (by omega) (c_X10_within 0 t (-1) 9 s) rfl rfl (Nat.le_of_ble_eq_true rfl) rfl dX10_asks_24) rfl (fun x24 s24 h24 => ?_)
      obtain ⟨es24, h24⟩ := h24
      have es24 := es24.symm
      subst es24
      refine G_if_ne C 34 30 dX10_asks_27 rfl rfl (fun c27 => ?_) (fun c27 => ?_)
      ·
        have k27 := g_neT h24 c27
        refine G_aload_n (i := 0) C 35 dX10_asks_34 rfl rfl rfl ?_
        refine X10_57g C 38 dX10_asks_35 rfl ?_
        refine G_iload_n (i := 1) C 39 dX10_asks_38 rfl rfl rfl ?_
        refine G_iload_n (i := 2) C 40 dX10_asks_39 rfl rfl rfl ?_
        refine G_iload_n (i := 3) C 41 dX10_asks_40 rfl rfl rfl ?_
        refine G_iconst (v := (-1)) C 42 dX10_asks_41 rfl rfl ?_
        refine G_icmp_ne C 49 45 dX10_asks_42 rfl rfl (fun c42 => ?_) (fun c42 => ?_)
        ·
          obtain ⟨ut, hut, eut⟩ := (x_inRm (b := 9) k27 rfl (by decide)).resolve_left c42
          have cut : t.toNatClampNeg = ut := by rw [eut, nI_clamp (by omega)]
          refine G_aload_n (i := 0) C 50 dX10_asks_49 rfl rfl rfl ?_
          refine X10_57g C 53 dX10_asks_50 rfl ?_
          refine X10_125g C (Or.inl rfl) 56 dX10_asks_53 rfl ?_
          refine G_iload_n (i := 3) C 57 dX10_asks_56 rfl rfl rfl ?_
          refine G_iald (n := 10) C 58 (lW (Or.inl rfl) (by decide)) (eWe _ _ _ (Or.inl rfl)) (ut) eut (by omega) (by decide) dX10_asks_57 rfl (fun x57 ex57 => ?_)
          have Sx57 : x57 = P 1 (ut) := ex57.trans (congrFun (congrFun fm.2.1 1) _)
          refine G_calli 61 (G_runV C Kc_X9_saidOf KV_X10_142 (by omega) (lW0 (Or.inl rfl)) (eW _ _ _ (Or.inl rfl)) rfl (c_X9_saidOf 0 TX nT n l 45 P s fm q uq euq (by omega) p up eup (by omega) x57) rfl rfl rfl (Nat.le_of_ble_eq_true rfl) rfl dX10_asks_58) rfl (fun x58 s58 h58 => ?_)
          have fm_1 : cI TX nT n l 45 P s58 := cI_q fm (h58.1.SQ)
          have fq_1 : Fr mQ s s58 := Fr.tr fq (h58.1.SQ)
          exact G_iret C dX10_asks_61 (⟨RC_q hR fq_1, h58.2.trans (by unfold s_asks; rw [if_neg k6, hxn, if_neg k17, if_neg k27, cuq, cup, if_neg c42, cut]; rw [Sx57])⟩)
        ·
          refine G_iconst (v := 0) C 46 dX10_asks_45 rfl rfl ?_
          refine G_goto C 58 dX10_asks_46 rfl ?_
          refine G_calli 61 (G_runV C Kc_X9_saidOf KV_X10_142 (by omega) (lW0 (Or.inl rfl)) (eW _ _ _ (Or.inl rfl)) rfl (c_X9_saidOf 0 TX nT n l 45 P s fm q uq euq (by omega) p up eup (by omega) 0) rfl rfl rfl (Nat.le_of_ble_eq_true rfl) rfl dX10_asks_58) rfl (fun x58 s58 h58 => ?_)
          have fm_1 : cI TX nT n l 45 P s58 := cI_q fm (h58.1.SQ)
          have fq_1 : Fr mQ s s58 := Fr.tr fq (h58.1.SQ)
          exact G_iret C dX10_asks_61 (⟨RC_q hR fq_1, h58.2.trans (by unfold s_asks; rw [if_neg k6, hxn, if_neg k17, if_neg k27, cuq, cup, if_pos c42])⟩)
      ·
        have k27 := h24.symm.trans c27
        refine G_sipush (v := (-1000)) C 33 dX10_asks_30 rfl rfl ?_
        exact G_iret C dX10_asks_33 (⟨RC_q hR fq, by unfold s_asks; rw [if_neg k6, hxn, if_neg k17, if_pos k27]⟩)
theorem dX10_citizen_0 : decode cX10_citizen 0 = .ok (.iload_n 1, 1) := by decide +kernel
theorem dX10_citizen_1 : decode cX10_citizen 1 = .ok (.iconst 0, 1) := by decide +kernel
theorem dX10_citizen_2 : decode cX10_citizen 2 = .ok (.bipush 59, 2) := by decide +kernel
theorem dX10_citizen_4 : decode cX10_citizen 4 = .ok (.invokestatic 112, 3) := by decide +kernel
theorem dX10_citizen_7 : decode cX10_citizen 7 = .ok (.ifCond .eq 17, 3) := by decide +kernel
theorem dX10_citizen_10 : decode cX10_citizen 10 = .ok (.iload_n 2, 1) := by decide +kernel
theorem dX10_citizen_11 : decode cX10_citizen 11 = .ok (.iconst 0, 1) := by decide +kernel
theorem dX10_citizen_12 : decode cX10_citizen 12 = .ok (.bipush 8, 2) := by decide +kernel
theorem dX10_citizen_14 : decode cX10_citizen 14 = .ok (.invokestatic 112, 3) := by decide +kernel
theorem dX10_citizen_17 : decode cX10_citizen 17 = .ok (.ifCond .eq 7, 3) := by decide +kernel
theorem dX10_citizen_20 : decode cX10_citizen 20 = .ok (.iconst 1, 1) := by decide +kernel
theorem dX10_citizen_21 : decode cX10_citizen 21 = .ok (.goto 4, 3) := by decide +kernel
theorem dX10_citizen_24 : decode cX10_citizen 24 = .ok (.iconst 0, 1) := by decide +kernel
theorem dX10_citizen_25 : decode cX10_citizen 25 = .ok (.istore 4, 2) := by decide +kernel
theorem dX10_citizen_27 : decode cX10_citizen 27 = .ok (.iload 4, 2) := by decide +kernel
theorem dX10_citizen_29 : decode cX10_citizen 29 = .ok (.ifCond .eq 14, 3) := by decide +kernel
theorem dX10_citizen_32 : decode cX10_citizen 32 = .ok (.iload_n 3, 1) := by decide +kernel
theorem dX10_citizen_33 : decode cX10_citizen 33 = .ok (.iconst 0, 1) := by decide +kernel
theorem dX10_citizen_34 : decode cX10_citizen 34 = .ok (.sipush 1023, 3) := by decide +kernel
theorem dX10_citizen_37 : decode cX10_citizen 37 = .ok (.invokestatic 112, 3) := by decide +kernel
theorem dX10_citizen_40 : decode cX10_citizen 40 = .ok (.ifCond .ne 6, 3) := by decide +kernel
theorem dX10_citizen_43 : decode cX10_citizen 43 = .ok (.bipush (-2), 2) := by decide +kernel
theorem dX10_citizen_45 : decode cX10_citizen 45 = .ok (.ireturn, 1) := by decide +kernel
theorem dX10_citizen_46 : decode cX10_citizen 46 = .ok (.aload_n 0, 1) := by decide +kernel
theorem dX10_citizen_47 : decode cX10_citizen 47 = .ok (.getfield 57, 3) := by decide +kernel
theorem dX10_citizen_50 : decode cX10_citizen 50 = .ok (.iload_n 1, 1) := by decide +kernel
theorem dX10_citizen_51 : decode cX10_citizen 51 = .ok (.iload_n 2, 1) := by decide +kernel
theorem dX10_citizen_52 : decode cX10_citizen 52 = .ok (.iload_n 3, 1) := by decide +kernel
theorem dX10_citizen_53 : decode cX10_citizen 53 = .ok (.invokevirtual 146, 3) := by decide +kernel
theorem dX10_citizen_56 : decode cX10_citizen 56 = .ok (.ireturn, 1) := by decide +kernel
set_option maxHeartbeats 4000000 in
set_option maxRecDepth 100000 in
theorem c_X10_citizen (d : Nat) (TX : gTX) (P B s : gS) (hR0 : RC TX P B s) (km wh wa : Int32) : gMt SC yX10_citizen cX10_citizen 5 (some .int) (d + 2) (fun ad => [.ref (ad 0), .int km, .int wh, .int wa]) s (gQi SC (fun r s' => RC TX (s_ctP P km wh wa) B s' ∧ r = s_ctR P km wh wa)) := by
  obtain ⟨nT, n, l, hR⟩ := hR0
  have hI := hR.1
  have hn6 : n ≤ 6 := hI.2.2.1.2.1
  have hl6 : l < 6 := cI_l6 hI
  have hxn : x_n P = n := x_nOf hI.2.2.1.1 hn6
  have hbI := hR.2.2
  refine gMt_of SC_ok (by decide +kernel) (fun ad => [some (.ref (ad 0)), some (.int km), some (.int wh), some (.int wa), none]) (fun _ => rfl) (fun _ => rfl) (fun _ => Nat.le_of_ble_eq_true rfl) (fun E C0 => ?_)
  have C : gCx SC E RX10 cX10_citizen 5 (some .int) (d + 2) := C0
  have i : cI TX nT n l 45 P s := hI
  have f : Fr (mW 45) s s := Fr.rf
  refine G_iload_n (i := 1) C 1 dX10_citizen_0 rfl rfl rfl ?_
  refine G_iconst (v := 0) C 2 dX10_citizen_1 rfl rfl ?_
  refine G_bipush (v := 59) C 4 dX10_citizen_2 rfl rfl ?_
  refine G_calli 7 (G_runS C Kc_X10_within KS_X10_112 (by omega) (c_X10_within 0 km 0 59 s) rfl rfl (Nat.le_of_ble_eq_true rfl) rfl dX10_citizen_4) rfl (fun x4 s4 h4 => ?_)
  obtain ⟨es4, h4⟩ := h4
  have es4 := es4.symm
  subst es4
  refine G_if_eq C 24 10 dX10_citizen_7 rfl rfl (fun c7 => ?_) (fun c7 => ?_)
  ·
    have k7 := h4.symm.trans c7
    refine G_iconst (v := 0) C 25 dX10_citizen_24 rfl rfl ?_
    refine G_istore (L' := [some (.ref (e_ad E 0)), some (.int km), some (.int wh), some (.int wa), some (.int 0)]) C 27 dX10_citizen_25 rfl (Nat.le_of_ble_eq_true rfl) rfl rfl ?_
    refine G_iload C 29 dX10_citizen_27 rfl rfl ?_
    refine G_if_eq C 43 32 dX10_citizen_29 rfl rfl (fun _ => ?_) (fun c => absurd c (by decide))
    refine G_bipush (v := (-2)) C 45 dX10_citizen_43 rfl rfl ?_
    exact G_iret C dX10_citizen_45 (⟨by unfold s_ctP s_ctOk; rw [if_pos k7, if_pos rfl]; exact ⟨nT, n, l, hR⟩, by unfold s_ctR s_ctOk; rw [if_pos k7, if_pos rfl]⟩)
  ·
    have k7 := g_neT h4 c7
    refine G_iload_n (i := 2) C 11 dX10_citizen_10 rfl rfl rfl ?_
    refine G_iconst (v := 0) C 12 dX10_citizen_11 rfl rfl ?_
    refine G_bipush (v := 8) C 14 dX10_citizen_12 rfl rfl ?_
    refine G_calli 17 (G_runS C Kc_X10_within KS_X10_112 (by omega) (c_X10_within 0 wh 0 8 s) rfl rfl (Nat.le_of_ble_eq_true rfl) rfl dX10_citizen_14) rfl (fun x14 s14 h14 => ?_)
    obtain ⟨es14, h14⟩ := h14
    have es14 := es14.symm
    subst es14
    refine G_if_eq C 24 20 dX10_citizen_17 rfl rfl (fun c17 => ?_) (fun c17 => ?_)
    ·
      have k17 := h14.symm.trans c17
      refine G_iconst (v := 0) C 25 dX10_citizen_24 rfl rfl ?_
      refine G_istore (L' := [some (.ref (e_ad E 0)), some (.int km), some (.int wh), some (.int wa), some (.int 0)]) C 27 dX10_citizen_25 rfl (Nat.le_of_ble_eq_true rfl) rfl rfl ?_
      refine G_iload C 29 dX10_citizen_27 rfl rfl ?_
      refine G_if_eq C 43 32 dX10_citizen_29 rfl rfl (fun _ => ?_) (fun c => absurd c (by decide))
      refine G_bipush (v := (-2)) C 45 dX10_citizen_43 rfl rfl ?_
      exact G_iret C dX10_citizen_45 (⟨by unfold s_ctP s_ctOk; rw [if_neg k7, if_pos k17, if_pos rfl]; exact ⟨nT, n, l, hR⟩, by unfold s_ctR s_ctOk; rw [if_neg k7, if_pos k17, if_pos rfl]⟩)
    ·
      have k17 := g_neT h14 c17
      refine G_iconst (v := 1) C 21 dX10_citizen_20 rfl rfl ?_
      refine G_goto C 25 dX10_citizen_21 rfl ?_
      refine G_istore (L' := [some (.ref (e_ad E 0)), some (.int km), some (.int wh), some (.int wa), some (.int 1)]) C 27 dX10_citizen_25 rfl (Nat.le_of_ble_eq_true rfl) rfl rfl ?_
      refine G_iload C 29 dX10_citizen_27 rfl rfl ?_
      refine G_if_eq C 43 32 dX10_citizen_29 rfl rfl (fun c => absurd c (by decide)) (fun _ => ?_)
      refine G_iload_n (i := 3) C 33 dX10_citizen_32 rfl rfl rfl ?_
      refine G_iconst (v := 0) C 34 dX10_citizen_33 rfl rfl ?_
      refine G_sipush (v := 1023) C 37 dX10_citizen_34 rfl rfl ?_
      refine G_calli 40 (G_runS C Kc_X10_within KS_X10_112 (by omega) (c_X10_within 0 wa 0 1023 s) rfl rfl (Nat.le_of_ble_eq_true rfl) rfl dX10_citizen_37) rfl (fun x37 s37 h37 => ?_)
      obtain ⟨es37, h37⟩ := h37
      have es37 := es37.symm
      subst es37
      refine G_if_ne C 46 43 dX10_citizen_40 rfl rfl (fun c40 => ?_) (fun c40 => ?_)
      ·
        have k40 := g_neT h37 c40
        refine G_aload_n (i := 0) C 47 dX10_citizen_46 rfl rfl rfl ?_
        refine X10_57g C 50 dX10_citizen_47 rfl ?_
        refine G_iload_n (i := 1) C 51 dX10_citizen_50 rfl rfl rfl ?_
        refine G_iload_n (i := 2) C 52 dX10_citizen_51 rfl rfl rfl ?_
        refine G_iload_n (i := 3) C 53 dX10_citizen_52 rfl rfl rfl ?_
        refine G_calli 56 (G_runV C Kc_X9_settle KV_X10_146 (by omega) (lW0 (Or.inl rfl)) (eW _ _ _ (Or.inl rfl)) rfl (c_X9_settle 0 TX nT n l 45 P s i km wh wa (by obtain ⟨z, hz, ez⟩ := x_inR (b := 59) k7 rfl (by decide); exact ⟨z, by omega, ez⟩) (by obtain ⟨z, hz, ez⟩ := x_inR (b := 1023) k40 rfl (by decide); exact ⟨z, by omega, ez⟩)) rfl rfl rfl (Nat.le_of_ble_eq_true rfl) rfl dX10_citizen_53) rfl (fun x53 s53 h53 => ?_)
        have f_1 : Fr (mW 45) s s53 := Fr.tr f h53.1
        have hn : n ≤ (if n = 6 then 6 else n + 1) := by split <;> omega
        exact G_iret C dX10_citizen_56 (⟨(by
            have eP : s_ctP P km wh wa = if x_n P = 6 then P else s_set P km wh wa := by unfold s_ctP s_ctOk; rw [if_neg k7, if_neg k17, if_neg k40]
            rw [eP]
            refine ⟨nT, _, l, Rc_now hR h53.2.1 h53.1 hn (fun j hj => ?_) ?_⟩
            · by_cases e : x_n P = 6
              · rw [if_pos e]; exact ⟨rfl, rfl⟩
              · rw [if_neg e]
                unfold s_set
                simp only [g_up, g_set, g_updj, hxn]
                simp
                exact ⟨if_neg (Nat.ne_of_lt hj), if_neg (Nat.ne_of_lt hj)⟩
            · by_cases e : x_n P = 6
              · rw [if_pos e]; exact hbI.2.2.2.2.2.1
              · rw [if_neg e]; exact eI_of hbI.2.2.2.2.2.1 rfl), h53.2.2.trans (by unfold s_ctR s_ctOk; rw [if_neg k7, if_neg k17, if_neg k40])⟩)
      ·
        have k40 := h37.symm.trans c40
        refine G_bipush (v := (-2)) C 45 dX10_citizen_43 rfl rfl ?_
        exact G_iret C dX10_citizen_45 (⟨by unfold s_ctP s_ctOk; rw [if_neg k7, if_neg k17, if_pos k40]; exact ⟨nT, n, l, hR⟩, by unfold s_ctR s_ctOk; rw [if_neg k7, if_neg k17, if_pos k40]⟩)
