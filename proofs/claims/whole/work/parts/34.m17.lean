theorem dX10_copy_0 : decode cX10_copy 0 = .ok (.iload_n 1, 1) := by decide +kernel
theorem dX10_copy_1 : decode cX10_copy 1 = .ok (.iconst 0, 1) := by decide +kernel
theorem dX10_copy_2 : decode cX10_copy 2 = .ok (.iconst 3, 1) := by decide +kernel
theorem dX10_copy_3 : decode cX10_copy 3 = .ok (.invokestatic 112, 3) := by decide +kernel
theorem dX10_copy_6 : decode cX10_copy 6 = .ok (.ifCond .eq 12, 3) := by decide +kernel
theorem dX10_copy_9 : decode cX10_copy 9 = .ok (.iload_n 3, 1) := by decide +kernel
theorem dX10_copy_10 : decode cX10_copy 10 = .ok (.iconst 0, 1) := by decide +kernel
theorem dX10_copy_11 : decode cX10_copy 11 = .ok (.iconst 3, 1) := by decide +kernel
theorem dX10_copy_12 : decode cX10_copy 12 = .ok (.invokestatic 112, 3) := by decide +kernel
theorem dX10_copy_15 : decode cX10_copy 15 = .ok (.ifCond .ne 6, 3) := by decide +kernel
theorem dX10_copy_18 : decode cX10_copy 18 = .ok (.bipush (-2), 2) := by decide +kernel
theorem dX10_copy_20 : decode cX10_copy 20 = .ok (.ireturn, 1) := by decide +kernel
theorem dX10_copy_21 : decode cX10_copy 21 = .ok (.aload_n 0, 1) := by decide +kernel
theorem dX10_copy_22 : decode cX10_copy 22 = .ok (.getfield 17, 3) := by decide +kernel
theorem dX10_copy_25 : decode cX10_copy 25 = .ok (.iload_n 1, 1) := by decide +kernel
theorem dX10_copy_26 : decode cX10_copy 26 = .ok (.aaload, 1) := by decide +kernel
theorem dX10_copy_27 : decode cX10_copy 27 = .ok (.astore 6, 2) := by decide +kernel
theorem dX10_copy_29 : decode cX10_copy 29 = .ok (.aload_n 0, 1) := by decide +kernel
theorem dX10_copy_30 : decode cX10_copy 30 = .ok (.getfield 17, 3) := by decide +kernel
theorem dX10_copy_33 : decode cX10_copy 33 = .ok (.iload_n 3, 1) := by decide +kernel
theorem dX10_copy_34 : decode cX10_copy 34 = .ok (.aaload, 1) := by decide +kernel
theorem dX10_copy_35 : decode cX10_copy 35 = .ok (.astore 7, 2) := by decide +kernel
theorem dX10_copy_37 : decode cX10_copy 37 = .ok (.aload 6, 2) := by decide +kernel
theorem dX10_copy_39 : decode cX10_copy 39 = .ok (.getfield 239, 3) := by decide +kernel
theorem dX10_copy_42 : decode cX10_copy 42 = .ok (.iconst (-1), 1) := by decide +kernel
theorem dX10_copy_43 : decode cX10_copy 43 = .ok (.if_icmp .eq 12, 3) := by decide +kernel
theorem dX10_copy_46 : decode cX10_copy 46 = .ok (.aload 7, 2) := by decide +kernel
theorem dX10_copy_48 : decode cX10_copy 48 = .ok (.getfield 239, 3) := by decide +kernel
theorem dX10_copy_51 : decode cX10_copy 51 = .ok (.iconst (-1), 1) := by decide +kernel
theorem dX10_copy_52 : decode cX10_copy 52 = .ok (.if_icmp .ne 6, 3) := by decide +kernel
theorem dX10_copy_55 : decode cX10_copy 55 = .ok (.bipush (-11), 2) := by decide +kernel
theorem dX10_copy_57 : decode cX10_copy 57 = .ok (.ireturn, 1) := by decide +kernel
theorem dX10_copy_58 : decode cX10_copy 58 = .ok (.aload 6, 2) := by decide +kernel
theorem dX10_copy_60 : decode cX10_copy 60 = .ok (.getfield 239, 3) := by decide +kernel
theorem dX10_copy_63 : decode cX10_copy 63 = .ok (.aload 7, 2) := by decide +kernel
theorem dX10_copy_65 : decode cX10_copy 65 = .ok (.getfield 239, 3) := by decide +kernel
theorem dX10_copy_68 : decode cX10_copy 68 = .ok (.if_icmp .eq 6, 3) := by decide +kernel
theorem dX10_copy_71 : decode cX10_copy 71 = .ok (.bipush (-13), 2) := by decide +kernel
theorem dX10_copy_73 : decode cX10_copy 73 = .ok (.ireturn, 1) := by decide +kernel
theorem dX10_copy_74 : decode cX10_copy 74 = .ok (.aload 6, 2) := by decide +kernel
theorem dX10_copy_76 : decode cX10_copy 76 = .ok (.iload_n 2, 1) := by decide +kernel
theorem dX10_copy_77 : decode cX10_copy 77 = .ok (.iload 5, 2) := by decide +kernel
theorem dX10_copy_79 : decode cX10_copy 79 = .ok (.invokevirtual 243, 3) := by decide +kernel
theorem dX10_copy_82 : decode cX10_copy 82 = .ok (.ifCond .eq 15, 3) := by decide +kernel
theorem dX10_copy_85 : decode cX10_copy 85 = .ok (.aload 7, 2) := by decide +kernel
theorem dX10_copy_87 : decode cX10_copy 87 = .ok (.iload 4, 2) := by decide +kernel
theorem dX10_copy_89 : decode cX10_copy 89 = .ok (.iload 5, 2) := by decide +kernel
theorem dX10_copy_91 : decode cX10_copy 91 = .ok (.invokevirtual 243, 3) := by decide +kernel
theorem dX10_copy_94 : decode cX10_copy 94 = .ok (.ifCond .ne 6, 3) := by decide +kernel
theorem dX10_copy_97 : decode cX10_copy 97 = .ok (.bipush (-12), 2) := by decide +kernel
theorem dX10_copy_99 : decode cX10_copy 99 = .ok (.ireturn, 1) := by decide +kernel
theorem dX10_copy_100 : decode cX10_copy 100 = .ok (.aload 6, 2) := by decide +kernel
theorem dX10_copy_102 : decode cX10_copy 102 = .ok (.getfield 246, 3) := by decide +kernel
theorem dX10_copy_105 : decode cX10_copy 105 = .ok (.iload_n 2, 1) := by decide +kernel
theorem dX10_copy_106 : decode cX10_copy 106 = .ok (.aload 7, 2) := by decide +kernel
theorem dX10_copy_108 : decode cX10_copy 108 = .ok (.getfield 246, 3) := by decide +kernel
theorem dX10_copy_111 : decode cX10_copy 111 = .ok (.iload 4, 2) := by decide +kernel
theorem dX10_copy_113 : decode cX10_copy 113 = .ok (.iload 5, 2) := by decide +kernel
theorem dX10_copy_115 : decode cX10_copy 115 = .ok (.invokestatic 249, 3) := by decide +kernel
theorem dX10_copy_118 : decode cX10_copy 118 = .ok (.iload 5, 2) := by decide +kernel
theorem dX10_copy_120 : decode cX10_copy 120 = .ok (.ireturn, 1) := by decide +kernel
set_option maxHeartbeats 4000000 in
set_option maxRecDepth 100000 in
theorem c_X10_copy (d : Nat) (TX : gTX) (P B s : gS) (hR0 : RC TX P B s) (t i o j m : Int32) : gMt SC yX10_copy cX10_copy 8 (some .int) (d + 2) (fun ad => [.ref (ad 0), .int t, .int i, .int o, .int j, .int m]) s (gQi SC (fun r s' => RC TX P (s_coB B t i o j m) s' ∧ r = s_coR B t i o j m)) := by
  obtain ⟨nT, n, l, hR⟩ := hR0
  have hI := hR.1
  have hn6 : n ≤ 6 := hI.2.2.1.2.1
  have hl6 : l < 6 := cI_l6 hI
  have hxn : x_n P = n := x_nOf hI.2.2.1.1 hn6
  have hbI := hR.2.2
  refine gMt_of SC_ok (by decide +kernel) (fun ad => [some (.ref (ad 0)), some (.int t), some (.int i), some (.int o), some (.int j), some (.int m), none, none]) (fun _ => rfl) (fun _ => rfl) (fun _ => Nat.le_of_ble_eq_true rfl) (fun E C0 => ?_)
  have C : gCx SC E RX10 cX10_copy 8 (some .int) (d + 2) := C0
  refine G_iload_n (i := 1) C 1 dX10_copy_0 rfl rfl rfl ?_
  refine G_iconst (v := 0) C 2 dX10_copy_1 rfl rfl ?_
  refine G_iconst (v := 3) C 3 dX10_copy_2 rfl rfl ?_
  refine G_calli 6 (G_runS C Kc_X10_within KS_X10_112 (by omega) (c_X10_within 0 t 0 3 s) rfl rfl (Nat.le_of_ble_eq_true rfl) rfl dX10_copy_3) rfl (fun x3 s3 h3 => ?_)
  obtain ⟨es3, h3⟩ := h3
  have es3 := es3.symm
  subst es3
  refine G_if_eq C 18 9 dX10_copy_6 rfl rfl (fun c6 => ?_) (fun c6 => ?_)
  ·
    have k6 := h3.symm.trans c6
    refine G_bipush (v := (-2)) C 20 dX10_copy_18 rfl rfl ?_
    exact G_iret C dX10_copy_20 (⟨by unfold s_coB; rw [if_pos (by unfold s_coR; rw [if_pos k6]; decide)]; exact ⟨nT, n, l, hR⟩, by unfold s_coR; rw [if_pos k6]⟩)
  ·
    have k6 := g_neT h3 c6
    obtain ⟨ut, hut, eut⟩ := x_inR (b := 3) k6 rfl (by decide)
    have cut : t.toNatClampNeg = ut := by rw [eut, nI_clamp (by omega)]
    refine G_iload_n (i := 3) C 10 dX10_copy_9 rfl rfl rfl ?_
    refine G_iconst (v := 0) C 11 dX10_copy_10 rfl rfl ?_
    refine G_iconst (v := 3) C 12 dX10_copy_11 rfl rfl ?_
    refine G_calli 15 (G_runS C Kc_X10_within KS_X10_112 (by omega) (c_X10_within 0 o 0 3 s) rfl rfl (Nat.le_of_ble_eq_true rfl) rfl dX10_copy_12) rfl (fun x12 s12 h12 => ?_)
    obtain ⟨es12, h12⟩ := h12
    have es12 := es12.symm
    subst es12
    refine G_if_ne C 21 18 dX10_copy_15 rfl rfl (fun c15 => ?_) (fun c15 => ?_)
    ·
      have k15 := g_neT h12 c15
      obtain ⟨uo, huo, euo⟩ := x_inR (b := 3) k15 rfl (by decide)
      have cuo : o.toNatClampNeg = uo := by rw [euo, nI_clamp (by omega)]
      refine G_aload_n (i := 0) C 22 dX10_copy_21 rfl rfl rfl ?_
      refine X10_17g C 25 dX10_copy_22 rfl ?_
      refine G_iload_n (i := 1) C 26 dX10_copy_25 rfl rfl rfl ?_
      refine G_aald (r := (30 + 2 * ut)) C 27 (by decide) (eC2 _ _ _) (fun _ => rfl) (ut) eut (by omega) (by decide) rfl dX10_copy_26 rfl ?_
      refine G_astore (L' := [some (.ref (e_ad E 0)), some (.int t), some (.int i), some (.int o), some (.int j), some (.int m), some (.ref (e_ad E (30 + 2 * ut))), none]) C 29 dX10_copy_27 rfl (Nat.le_of_ble_eq_true rfl) rfl rfl ?_
      refine G_aload_n (i := 0) C 30 dX10_copy_29 rfl rfl rfl ?_
      refine X10_17g C 33 dX10_copy_30 rfl ?_
      refine G_iload_n (i := 3) C 34 dX10_copy_33 rfl rfl rfl ?_
      refine G_aald (r := (30 + 2 * uo)) C 35 (by decide) (eC2 _ _ _) (fun _ => rfl) (uo) euo (by omega) (by decide) rfl dX10_copy_34 rfl ?_
      refine G_astore (L' := [some (.ref (e_ad E 0)), some (.int t), some (.int i), some (.int o), some (.int j), some (.int m), some (.ref (e_ad E (30 + 2 * ut))), some (.ref (e_ad E (30 + 2 * uo)))]) C 37 dX10_copy_35 rfl (Nat.le_of_ble_eq_true rfl) rfl rfl ?_
      refine G_aload C 39 dX10_copy_37 rfl rfl ?_
      refine X10_239g C (by omega) 42 dX10_copy_39 rfl (fun x39 ex39 => ?_)
      have Sx39 : x39 = B 2 ut := ex39.trans (cB_so hR.2.1 (by omega))
      refine G_iconst (v := (-1)) C 43 dX10_copy_42 rfl rfl ?_
      refine G_icmp_eq C 55 46 dX10_copy_43 rfl rfl (fun c43 => ?_) (fun c43 => ?_)
      ·
        refine G_bipush (v := (-11)) C 57 dX10_copy_55 rfl rfl ?_
        exact G_iret C dX10_copy_57 (⟨by unfold s_coB; rw [if_pos (by unfold s_coR; rw [if_neg k6, if_neg k15, cut, cuo, if_pos (Sx39.symm.trans c43)]; decide)]; exact ⟨nT, n, l, hR⟩, by unfold s_coR; rw [if_neg k6, if_neg k15, cut, cuo, if_pos (Sx39.symm.trans c43)]⟩)
      ·
        obtain ⟨sot, zt, hsot, hzt, esot, ezt⟩ := (hbI.2.2.2.2.1 ut (by omega)).resolve_left (fun w => (fun w2 => c43 (Sx39.trans w2)) w.1)
        refine G_aload C 48 dX10_copy_46 rfl rfl ?_
        refine X10_239g C (by omega) 51 dX10_copy_48 rfl (fun x48 ex48 => ?_)
        have Sx48 : x48 = B 2 uo := ex48.trans (cB_so hR.2.1 (by omega))
        refine G_iconst (v := (-1)) C 52 dX10_copy_51 rfl rfl ?_
        refine G_icmp_ne C 58 55 dX10_copy_52 rfl rfl (fun c52 => ?_) (fun c52 => ?_)
        ·
          obtain ⟨soo, zo, hsoo, hzo, esoo, ezo⟩ := (hbI.2.2.2.2.1 uo (by omega)).resolve_left (fun w => (fun w2 => c52 (Sx48.trans w2)) w.1)
          refine G_aload C 60 dX10_copy_58 rfl rfl ?_
          refine X10_239g C (by omega) 63 dX10_copy_60 rfl (fun x60 ex60 => ?_)
          have Sx60 : x60 = B 2 ut := ex60.trans (cB_so hR.2.1 (by omega))
          refine G_aload C 65 dX10_copy_63 rfl rfl ?_
          refine X10_239g C (by omega) 68 dX10_copy_65 rfl (fun x65 ex65 => ?_)
          have Sx65 : x65 = B 2 uo := ex65.trans (cB_so hR.2.1 (by omega))
          refine G_icmp_eq C 74 71 dX10_copy_68 rfl rfl (fun c68 => ?_) (fun c68 => ?_)
          ·
            refine G_aload C 76 dX10_copy_74 rfl rfl ?_
            refine G_iload_n (i := 2) C 77 dX10_copy_76 rfl rfl rfl ?_
            refine G_iload C 79 dX10_copy_77 rfl rfl ?_
            refine G_calli 82 (G_runV C Kc_X4_holds KV_X10_243 (by omega) (lS0 (by omega)) (eSh _ _ _ (by omega)) rfl (c_X4_holds 0 ut (by omega) i m s) rfl rfl rfl (Nat.le_of_ble_eq_true rfl) rfl dX10_copy_79) rfl (fun x79 s79 h79 => ?_)
            obtain ⟨es79, h79⟩ := h79
            have es79 := es79.symm
            subst es79
            refine G_if_eq C 97 85 dX10_copy_82 rfl rfl (fun c82 => ?_) (fun c82 => ?_)
            ·
              have k82 := h79.symm.trans c82
              refine G_bipush (v := (-12)) C 99 dX10_copy_97 rfl rfl ?_
              exact G_iret C dX10_copy_99 (⟨by unfold s_coB; rw [if_pos (by unfold s_coR; rw [if_neg k6, if_neg k15, cut, cuo, if_neg (fun w => c43 (Sx39.trans w)), if_neg (fun w => c52 (Sx48.trans w)), if_pos (by rw [← Sx60, ← Sx65]; exact c68), if_pos (by rw [← cB_sz hR.2.1 (by omega)]; exact k82)]; decide)]; exact ⟨nT, n, l, hR⟩, by unfold s_coR; rw [if_neg k6, if_neg k15, cut, cuo, if_neg (fun w => c43 (Sx39.trans w)), if_neg (fun w => c52 (Sx48.trans w)), if_pos (by rw [← Sx60, ← Sx65]; exact c68), if_pos (by rw [← cB_sz hR.2.1 (by omega)]; exact k82)]⟩)
            ·
              have k82 := g_neT h79 c82
              obtain ⟨a, c, ei, em, hac⟩ := x_holT (z := zt) (by omega) (by rw [← ezt, ← cB_sz hR.2.1 (by omega)]; exact k82)
              refine G_aload C 87 dX10_copy_85 rfl rfl ?_
              refine G_iload C 89 dX10_copy_87 rfl rfl ?_
              refine G_iload C 91 dX10_copy_89 rfl rfl ?_
              refine G_calli 94 (G_runV C Kc_X4_holds KV_X10_243 (by omega) (lS0 (by omega)) (eSh _ _ _ (by omega)) rfl (c_X4_holds 0 uo (by omega) j m s) rfl rfl rfl (Nat.le_of_ble_eq_true rfl) rfl dX10_copy_91) rfl (fun x91 s91 h91 => ?_)
              obtain ⟨es91, h91⟩ := h91
              have es91 := es91.symm
              subst es91
              refine G_if_ne C 100 97 dX10_copy_94 rfl rfl (fun c94 => ?_) (fun c94 => ?_)
              ·
                have k94 := g_neT h91 c94
                obtain ⟨b, c2, ej, em2, hbc2⟩ := x_holT (z := zo) (by omega) (by rw [← ezo, ← cB_sz hR.2.1 (by omega)]; exact k94)
                have hcc : c2 = c := by
                  rw [em, nI_eq (by omega) (by omega)] at em2
                  exact em2.symm
                have hbc : b + c ≤ zo := by omega
                refine G_aload C 102 dX10_copy_100 rfl rfl ?_
                refine X10_246g C (by omega) 105 dX10_copy_102 rfl ?_
                refine G_iload_n (i := 2) C 106 dX10_copy_105 rfl rfl rfl ?_
                refine G_aload C 108 dX10_copy_106 rfl rfl ?_
                refine X10_246g C (by omega) 111 dX10_copy_108 rfl ?_
                refine G_iload C 113 dX10_copy_111 rfl rfl ?_
                refine G_iload C 115 dX10_copy_113 rfl rfl ?_
                refine G_copy (n0 := 40) (n1 := 40) C 118 w_784 (by omega) (lS (by omega) (by decide)) (lS (by omega) (by decide)) (eSn _ _ _ (by omega)) (fun σ => eSn _ _ σ (by omega)) (a) (b) (c) ei ej em (by omega) (by omega) (by decide) (by decide) (Nat.le_of_eq (nS1 (by omega)).symm) (Nat.le_of_ble_eq_true rfl) rfl dX10_copy_115 rfl (fun s115 es115 => ?_)
                refine G_iload C 120 dX10_copy_118 rfl rfl ?_
                have hr : s_coR B t i o j m = m := by unfold s_coR; rw [if_neg k6, if_neg k15, cut, cuo, if_neg (fun w => c43 (Sx39.trans w)), if_neg (fun w => c52 (Sx48.trans w)), if_pos (by rw [← Sx60, ← Sx65]; exact c68), if_neg (by rw [← cB_sz hR.2.1 (by omega)]; exact k82), if_neg (by rw [← cB_sz hR.2.1 (by omega)]; exact k94)]
                exact G_iret C dX10_copy_120 (⟨by
                    unfold s_coB; rw [hr, if_neg (by rw [em]; exact nI_pos (by omega)), cut, cuo, ei, ej, em, nI_clamp (by omega), nI_clamp (by omega), nI_clamp (by omega)]
                    refine ⟨nT, n, l, Rc_num hR (by omega) es115 (fun q hq => ?_) (fun q hq => ?_)⟩
                    · unfold va_cpy
                      by_cases h : b ≤ q ∧ q < b + c
                      · rw [if_pos h, if_pos h, cB_nu hR.2.1 (by omega) (by omega)]
                      · rw [if_neg h, if_neg h, cB_nu hR.2.1 (by omega) hq]
                    · rw [if_neg (by omega), cB_n40 hR.2.1 (by omega) hq], hr.symm⟩)
              ·
                have k94 := h91.symm.trans c94
                refine G_bipush (v := (-12)) C 99 dX10_copy_97 rfl rfl ?_
                exact G_iret C dX10_copy_99 (⟨by unfold s_coB; rw [if_pos (by unfold s_coR; rw [if_neg k6, if_neg k15, cut, cuo, if_neg (fun w => c43 (Sx39.trans w)), if_neg (fun w => c52 (Sx48.trans w)), if_pos (by rw [← Sx60, ← Sx65]; exact c68), if_neg (by rw [← cB_sz hR.2.1 (by omega)]; exact k82), if_pos (by rw [← cB_sz hR.2.1 (by omega)]; exact k94)]; decide)]; exact ⟨nT, n, l, hR⟩, by unfold s_coR; rw [if_neg k6, if_neg k15, cut, cuo, if_neg (fun w => c43 (Sx39.trans w)), if_neg (fun w => c52 (Sx48.trans w)), if_pos (by rw [← Sx60, ← Sx65]; exact c68), if_neg (by rw [← cB_sz hR.2.1 (by omega)]; exact k82), if_pos (by rw [← cB_sz hR.2.1 (by omega)]; exact k94)]⟩)
          ·
            refine G_bipush (v := (-13)) C 73 dX10_copy_71 rfl rfl ?_
            exact G_iret C dX10_copy_73 (⟨by unfold s_coB; rw [if_pos (by unfold s_coR; rw [if_neg k6, if_neg k15, cut, cuo, if_neg (fun w => c43 (Sx39.trans w)), if_neg (fun w => c52 (Sx48.trans w)), if_neg (by rw [← Sx60, ← Sx65]; exact c68)]; decide)]; exact ⟨nT, n, l, hR⟩, by unfold s_coR; rw [if_neg k6, if_neg k15, cut, cuo, if_neg (fun w => c43 (Sx39.trans w)), if_neg (fun w => c52 (Sx48.trans w)), if_neg (by rw [← Sx60, ← Sx65]; exact c68)]⟩)
        ·
          refine G_bipush (v := (-11)) C 57 dX10_copy_55 rfl rfl ?_
          exact G_iret C dX10_copy_57 (⟨by unfold s_coB; rw [if_pos (by unfold s_coR; rw [if_neg k6, if_neg k15, cut, cuo, if_neg (fun w => c43 (Sx39.trans w)), if_pos (Sx48.symm.trans c52)]; decide)]; exact ⟨nT, n, l, hR⟩, by unfold s_coR; rw [if_neg k6, if_neg k15, cut, cuo, if_neg (fun w => c43 (Sx39.trans w)), if_pos (Sx48.symm.trans c52)]⟩)
    ·
      have k15 := h12.symm.trans c15
      refine G_bipush (v := (-2)) C 20 dX10_copy_18 rfl rfl ?_
      exact G_iret C dX10_copy_20 (⟨by unfold s_coB; rw [if_pos (by unfold s_coR; rw [if_neg k6, if_pos k15]; decide)]; exact ⟨nT, n, l, hR⟩, by unfold s_coR; rw [if_neg k6, if_pos k15]⟩)
theorem dX10_peopleBy_0 : decode cX10_peopleBy 0 = .ok (.iload_n 1, 1) := by decide +kernel
theorem dX10_peopleBy_1 : decode cX10_peopleBy 1 = .ok (.iconst 0, 1) := by decide +kernel
theorem dX10_peopleBy_2 : decode cX10_peopleBy 2 = .ok (.iconst 3, 1) := by decide +kernel
theorem dX10_peopleBy_3 : decode cX10_peopleBy 3 = .ok (.invokestatic 112, 3) := by decide +kernel
theorem dX10_peopleBy_6 : decode cX10_peopleBy 6 = .ok (.ifCond .eq 23, 3) := by decide +kernel
theorem dX10_peopleBy_9 : decode cX10_peopleBy 9 = .ok (.iload_n 2, 1) := by decide +kernel
theorem dX10_peopleBy_10 : decode cX10_peopleBy 10 = .ok (.iconst 0, 1) := by decide +kernel
theorem dX10_peopleBy_11 : decode cX10_peopleBy 11 = .ok (.iconst 2, 1) := by decide +kernel
theorem dX10_peopleBy_12 : decode cX10_peopleBy 12 = .ok (.invokestatic 112, 3) := by decide +kernel
theorem dX10_peopleBy_15 : decode cX10_peopleBy 15 = .ok (.ifCond .eq 14, 3) := by decide +kernel
theorem dX10_peopleBy_18 : decode cX10_peopleBy 18 = .ok (.iload 4, 2) := by decide +kernel
theorem dX10_peopleBy_20 : decode cX10_peopleBy 20 = .ok (.iconst 0, 1) := by decide +kernel
theorem dX10_peopleBy_21 : decode cX10_peopleBy 21 = .ok (.bipush 6, 2) := by decide +kernel
theorem dX10_peopleBy_23 : decode cX10_peopleBy 23 = .ok (.invokestatic 112, 3) := by decide +kernel
theorem dX10_peopleBy_26 : decode cX10_peopleBy 26 = .ok (.ifCond .ne 6, 3) := by decide +kernel
theorem dX10_peopleBy_29 : decode cX10_peopleBy 29 = .ok (.bipush (-2), 2) := by decide +kernel
theorem dX10_peopleBy_31 : decode cX10_peopleBy 31 = .ok (.ireturn, 1) := by decide +kernel
theorem dX10_peopleBy_32 : decode cX10_peopleBy 32 = .ok (.aload_n 0, 1) := by decide +kernel
theorem dX10_peopleBy_33 : decode cX10_peopleBy 33 = .ok (.getfield 17, 3) := by decide +kernel
theorem dX10_peopleBy_36 : decode cX10_peopleBy 36 = .ok (.iload_n 1, 1) := by decide +kernel
theorem dX10_peopleBy_37 : decode cX10_peopleBy 37 = .ok (.aaload, 1) := by decide +kernel
theorem dX10_peopleBy_38 : decode cX10_peopleBy 38 = .ok (.astore 5, 2) := by decide +kernel
theorem dX10_peopleBy_40 : decode cX10_peopleBy 40 = .ok (.aload 5, 2) := by decide +kernel
theorem dX10_peopleBy_42 : decode cX10_peopleBy 42 = .ok (.getfield 239, 3) := by decide +kernel
theorem dX10_peopleBy_45 : decode cX10_peopleBy 45 = .ok (.iconst (-1), 1) := by decide +kernel
theorem dX10_peopleBy_46 : decode cX10_peopleBy 46 = .ok (.if_icmp .ne 6, 3) := by decide +kernel
theorem dX10_peopleBy_49 : decode cX10_peopleBy 49 = .ok (.bipush (-11), 2) := by decide +kernel
theorem dX10_peopleBy_51 : decode cX10_peopleBy 51 = .ok (.ireturn, 1) := by decide +kernel
theorem dX10_peopleBy_52 : decode cX10_peopleBy 52 = .ok (.aload 5, 2) := by decide +kernel
theorem dX10_peopleBy_54 : decode cX10_peopleBy 54 = .ok (.getfield 239, 3) := by decide +kernel
theorem dX10_peopleBy_57 : decode cX10_peopleBy 57 = .ok (.iload_n 2, 1) := by decide +kernel
theorem dX10_peopleBy_58 : decode cX10_peopleBy 58 = .ok (.if_icmp .eq 6, 3) := by decide +kernel
theorem dX10_peopleBy_61 : decode cX10_peopleBy 61 = .ok (.bipush (-13), 2) := by decide +kernel
theorem dX10_peopleBy_63 : decode cX10_peopleBy 63 = .ok (.ireturn, 1) := by decide +kernel
theorem dX10_peopleBy_64 : decode cX10_peopleBy 64 = .ok (.iconst 0, 1) := by decide +kernel
theorem dX10_peopleBy_65 : decode cX10_peopleBy 65 = .ok (.istore 6, 2) := by decide +kernel
theorem dX10_peopleBy_67 : decode cX10_peopleBy 67 = .ok (.iload_n 3, 1) := by decide +kernel
theorem dX10_peopleBy_68 : decode cX10_peopleBy 68 = .ok (.istore 7, 2) := by decide +kernel
theorem dX10_peopleBy_70 : decode cX10_peopleBy 70 = .ok (.iconst 0, 1) := by decide +kernel
theorem dX10_peopleBy_71 : decode cX10_peopleBy 71 = .ok (.istore 8, 2) := by decide +kernel
theorem dX10_peopleBy_73 : decode cX10_peopleBy 73 = .ok (.iload 8, 2) := by decide +kernel
theorem dX10_peopleBy_75 : decode cX10_peopleBy 75 = .ok (.iload 4, 2) := by decide +kernel
theorem dX10_peopleBy_77 : decode cX10_peopleBy 77 = .ok (.if_icmp .ge 64, 3) := by decide +kernel
theorem dX10_peopleBy_80 : decode cX10_peopleBy 80 = .ok (.aload 5, 2) := by decide +kernel
theorem dX10_peopleBy_82 : decode cX10_peopleBy 82 = .ok (.iload 7, 2) := by decide +kernel
theorem dX10_peopleBy_84 : decode cX10_peopleBy 84 = .ok (.iconst 3, 1) := by decide +kernel
theorem dX10_peopleBy_85 : decode cX10_peopleBy 85 = .ok (.invokevirtual 243, 3) := by decide +kernel
theorem dX10_peopleBy_88 : decode cX10_peopleBy 88 = .ok (.ifCond .ne 6, 3) := by decide +kernel
theorem dX10_peopleBy_91 : decode cX10_peopleBy 91 = .ok (.bipush (-12), 2) := by decide +kernel
theorem dX10_peopleBy_93 : decode cX10_peopleBy 93 = .ok (.ireturn, 1) := by decide +kernel
theorem dX10_peopleBy_94 : decode cX10_peopleBy 94 = .ok (.aload_n 0, 1) := by decide +kernel
theorem dX10_peopleBy_95 : decode cX10_peopleBy 95 = .ok (.aload 5, 2) := by decide +kernel
theorem dX10_peopleBy_97 : decode cX10_peopleBy 97 = .ok (.getfield 246, 3) := by decide +kernel
theorem dX10_peopleBy_100 : decode cX10_peopleBy 100 = .ok (.iload 7, 2) := by decide +kernel
theorem dX10_peopleBy_102 : decode cX10_peopleBy 102 = .ok (.iaload, 1) := by decide +kernel
theorem dX10_peopleBy_103 : decode cX10_peopleBy 103 = .ok (.aload 5, 2) := by decide +kernel
theorem dX10_peopleBy_105 : decode cX10_peopleBy 105 = .ok (.getfield 246, 3) := by decide +kernel
theorem dX10_peopleBy_108 : decode cX10_peopleBy 108 = .ok (.iload 7, 2) := by decide +kernel
theorem dX10_peopleBy_110 : decode cX10_peopleBy 110 = .ok (.iconst 1, 1) := by decide +kernel
theorem dX10_peopleBy_111 : decode cX10_peopleBy 111 = .ok (.iadd, 1) := by decide +kernel
theorem dX10_peopleBy_112 : decode cX10_peopleBy 112 = .ok (.iaload, 1) := by decide +kernel
theorem dX10_peopleBy_113 : decode cX10_peopleBy 113 = .ok (.aload 5, 2) := by decide +kernel
theorem dX10_peopleBy_115 : decode cX10_peopleBy 115 = .ok (.getfield 246, 3) := by decide +kernel
theorem dX10_peopleBy_118 : decode cX10_peopleBy 118 = .ok (.iload 7, 2) := by decide +kernel
theorem dX10_peopleBy_120 : decode cX10_peopleBy 120 = .ok (.iconst 2, 1) := by decide +kernel
theorem dX10_peopleBy_121 : decode cX10_peopleBy 121 = .ok (.iadd, 1) := by decide +kernel
theorem dX10_peopleBy_122 : decode cX10_peopleBy 122 = .ok (.iaload, 1) := by decide +kernel
theorem dX10_peopleBy_123 : decode cX10_peopleBy 123 = .ok (.invokevirtual 255, 3) := by decide +kernel
theorem dX10_peopleBy_126 : decode cX10_peopleBy 126 = .ok (.ifCond .lt 6, 3) := by decide +kernel
theorem dX10_peopleBy_129 : decode cX10_peopleBy 129 = .ok (.iinc 6 1, 3) := by decide +kernel
theorem dX10_peopleBy_132 : decode cX10_peopleBy 132 = .ok (.iinc 7 3, 3) := by decide +kernel
theorem dX10_peopleBy_135 : decode cX10_peopleBy 135 = .ok (.iinc 8 1, 3) := by decide +kernel
theorem dX10_peopleBy_138 : decode cX10_peopleBy 138 = .ok (.goto (-65), 3) := by decide +kernel
theorem dX10_peopleBy_141 : decode cX10_peopleBy 141 = .ok (.iload 6, 2) := by decide +kernel
theorem dX10_peopleBy_143 : decode cX10_peopleBy 143 = .ok (.ireturn, 1) := by decide +kernel
set_option maxHeartbeats 4000000 in
set_option maxRecDepth 100000 in
theorem c_X10_peopleBy (d : Nat) (TX : gTX) (P B s : gS) (hR0 : RC TX P B s) (t q i m : Int32) : gMt SC yX10_peopleBy cX10_peopleBy 9 (some .int) (d + 3) (fun ad => [.ref (ad 0), .int t, .int q, .int i, .int m]) s (gQi SC (fun r s' => RC TX (s_ppP P B t q i m) B s' ∧ r = s_ppR P B t q i m)) := by
  have hR1 := hR0
  obtain ⟨nT, n, l, hR⟩ := hR1
  have hI := hR.1
  have hn6 : n ≤ 6 := hI.2.2.1.2.1
  have hl6 : l < 6 := cI_l6 hI
  have hxn : x_n P = n := x_nOf hI.2.2.1.1 hn6
  have hbI := hR.2.2
  refine gMt_of SC_ok (by decide +kernel) (fun ad => [some (.ref (ad 0)), some (.int t), some (.int q), some (.int i), some (.int m), none, none, none, none]) (fun _ => rfl) (fun _ => rfl) (fun _ => Nat.le_of_ble_eq_true rfl) (fun E C0 => ?_)
  have C : gCx SC E RX10 cX10_peopleBy 9 (some .int) (d + 3) := C0
  have r : RC TX P B s := hR0
  refine G_iload_n (i := 1) C 1 dX10_peopleBy_0 rfl rfl rfl ?_
  refine G_iconst (v := 0) C 2 dX10_peopleBy_1 rfl rfl ?_
  refine G_iconst (v := 3) C 3 dX10_peopleBy_2 rfl rfl ?_
  refine G_calli 6 (G_runS C Kc_X10_within KS_X10_112 (by omega) (c_X10_within 0 t 0 3 s) rfl rfl (Nat.le_of_ble_eq_true rfl) rfl dX10_peopleBy_3) rfl (fun x3 s3 h3 => ?_)
  obtain ⟨es3, h3⟩ := h3
  have es3 := es3.symm
  subst es3
  refine G_if_eq C 29 9 dX10_peopleBy_6 rfl rfl (fun c6 => ?_) (fun c6 => ?_)
  ·
    have k6 := h3.symm.trans c6
    refine G_bipush (v := (-2)) C 31 dX10_peopleBy_29 rfl rfl ?_
    exact G_iret C dX10_peopleBy_31 (⟨by unfold s_ppP; rw [if_neg (by unfold s_ppE; rw [if_pos k6]; decide)]; exact ⟨nT, n, l, hR⟩, by unfold s_ppR s_ppE; rw [if_pos k6]; rfl⟩)
  ·
    have k6 := g_neT h3 c6
    obtain ⟨ut, hut, eut⟩ := x_inR (b := 3) k6 rfl (by decide)
    have cut : t.toNatClampNeg = ut := by rw [eut, nI_clamp (by omega)]
    refine G_iload_n (i := 2) C 10 dX10_peopleBy_9 rfl rfl rfl ?_
    refine G_iconst (v := 0) C 11 dX10_peopleBy_10 rfl rfl ?_
    refine G_iconst (v := 2) C 12 dX10_peopleBy_11 rfl rfl ?_
    refine G_calli 15 (G_runS C Kc_X10_within KS_X10_112 (by omega) (c_X10_within 0 q 0 2 s) rfl rfl (Nat.le_of_ble_eq_true rfl) rfl dX10_peopleBy_12) rfl (fun x12 s12 h12 => ?_)
    obtain ⟨es12, h12⟩ := h12
    have es12 := es12.symm
    subst es12
    refine G_if_eq C 29 18 dX10_peopleBy_15 rfl rfl (fun c15 => ?_) (fun c15 => ?_)
    ·
      have k15 := h12.symm.trans c15
      refine G_bipush (v := (-2)) C 31 dX10_peopleBy_29 rfl rfl ?_
      exact G_iret C dX10_peopleBy_31 (⟨by unfold s_ppP; rw [if_neg (by unfold s_ppE; rw [if_neg k6, if_pos k15]; decide)]; exact ⟨nT, n, l, hR⟩, by unfold s_ppR s_ppE; rw [if_neg k6, if_pos k15]; rfl⟩)
    ·
      have k15 := g_neT h12 c15
      refine G_iload C 20 dX10_peopleBy_18 rfl rfl ?_
      refine G_iconst (v := 0) C 21 dX10_peopleBy_20 rfl rfl ?_
      refine G_bipush (v := 6) C 23 dX10_peopleBy_21 rfl rfl ?_
      refine G_calli 26 (G_runS C Kc_X10_within KS_X10_112 (by omega) (c_X10_within 0 m 0 6 s) rfl rfl (Nat.le_of_ble_eq_true rfl) rfl dX10_peopleBy_23) rfl (fun x23 s23 h23 => ?_)
      obtain ⟨es23, h23⟩ := h23
      have es23 := es23.symm
      subst es23
      refine G_if_ne C 32 29 dX10_peopleBy_26 rfl rfl (fun c26 => ?_) (fun c26 => ?_)
      ·
        have k26 := g_neT h23 c26
        obtain ⟨um, hum, eum⟩ := x_inR (b := 6) k26 rfl (by decide)
        have cum : m.toNatClampNeg = um := by rw [eum, nI_clamp (by omega)]
        refine G_aload_n (i := 0) C 33 dX10_peopleBy_32 rfl rfl rfl ?_
        refine X10_17g C 36 dX10_peopleBy_33 rfl ?_
        refine G_iload_n (i := 1) C 37 dX10_peopleBy_36 rfl rfl rfl ?_
        refine G_aald (r := (30 + 2 * ut)) C 38 (by decide) (eC2 _ _ _) (fun _ => rfl) (ut) eut (by omega) (by decide) rfl dX10_peopleBy_37 rfl ?_
        refine G_astore (L' := [some (.ref (e_ad E 0)), some (.int t), some (.int q), some (.int i), some (.int m), some (.ref (e_ad E (30 + 2 * ut))), none, none, none]) C 40 dX10_peopleBy_38 rfl (Nat.le_of_ble_eq_true rfl) rfl rfl ?_
        refine G_aload C 42 dX10_peopleBy_40 rfl rfl ?_
        refine X10_239g C (by omega) 45 dX10_peopleBy_42 rfl (fun x42 ex42 => ?_)
        have Sx42 : x42 = B 2 ut := ex42.trans (cB_so hR.2.1 (by omega))
        refine G_iconst (v := (-1)) C 46 dX10_peopleBy_45 rfl rfl ?_
        refine G_icmp_ne C 52 49 dX10_peopleBy_46 rfl rfl (fun c46 => ?_) (fun c46 => ?_)
        ·
          obtain ⟨so, z, hso, hz, eso, ez⟩ := (hbI.2.2.2.2.1 ut (by omega)).resolve_left (fun w => c46 (Sx42.trans w.1))
          refine G_aload C 54 dX10_peopleBy_52 rfl rfl ?_
          refine X10_239g C (by omega) 57 dX10_peopleBy_54 rfl (fun x54 ex54 => ?_)
          have Sx54 : x54 = B 2 ut := ex54.trans (cB_so hR.2.1 (by omega))
          refine G_iload_n (i := 2) C 58 dX10_peopleBy_57 rfl rfl rfl ?_
          refine G_icmp_eq C 64 61 dX10_peopleBy_58 rfl rfl (fun c58 => ?_) (fun c58 => ?_)
          ·
            refine G_iconst (v := 0) C 65 dX10_peopleBy_64 rfl rfl ?_
            refine G_istore (L' := [some (.ref (e_ad E 0)), some (.int t), some (.int q), some (.int i), some (.int m), some (.ref (e_ad E (30 + 2 * ut))), some (.int 0), none, none]) C 67 dX10_peopleBy_65 rfl (Nat.le_of_ble_eq_true rfl) rfl rfl ?_
            refine G_iload_n (i := 3) C 68 dX10_peopleBy_67 rfl rfl rfl ?_
            refine G_istore (L' := [some (.ref (e_ad E 0)), some (.int t), some (.int q), some (.int i), some (.int m), some (.ref (e_ad E (30 + 2 * ut))), some (.int 0), some (.int i), none]) C 70 dX10_peopleBy_68 rfl (Nat.le_of_ble_eq_true rfl) rfl rfl ?_
            refine G_iconst (v := 0) C 71 dX10_peopleBy_70 rfl rfl ?_
            refine G_istore (L' := [some (.ref (e_ad E 0)), some (.int t), some (.int q), some (.int i), some (.int m), some (.ref (e_ad E (30 + 2 * ut))), some (.int 0), some (.int i), some (.int 0)]) C 73 dX10_peopleBy_71 rfl (Nat.le_of_ble_eq_true rfl) rfl rfl ?_
            have L73 : ∀ (f73 : Nat) (k : Nat) (Pk : gS) (ca pl y : Int32) (sl73 : gS) (Ey : y = nI k) (hk : k ≤ um) (hx : x_ppl (B (4 + ut)) (B 3 ut) um P i 0 = x_ppl (B (4 + ut)) (B 3 ut) (um - k) Pk pl ca) (rl73 : RC TX Pk B sl73), um < k + f73 → GW SC E (gFin SC E (gQi SC (fun r s' => RC TX (s_ppP P B t q i m) B s' ∧ r = s_ppR P B t q i m))) 73 [some (.ref (e_ad E 0)), some (.int t), some (.int q), some (.int i), some (.int m), some (.ref (e_ad E (30 + 2 * ut))), some (.int ca), some (.int pl), some (.int y)] [] sl73 := by
              intro f73
              induction f73 with
              | zero =>
                intro k Pk ca pl y sl73 Ey hk hx rl73 hf73
                exact absurd hf73 (by omega)
              | succ f73 ih73 =>
                intro k Pk ca pl y sl73 Ey hk hx rl73 hf73
                refine G_iload C 75 dX10_peopleBy_73 rfl rfl ?_
                refine G_iload C 77 dX10_peopleBy_75 rfl rfl ?_
                refine G_icmp_ge C 141 80 dX10_peopleBy_77 rfl rfl (fun c77 => ?_) (fun c77 => ?_)
                ·
                  have n77 : ¬ k < um := fun h => c77 ((g_ltN (a := k) (b := um) (hx := Ey) (hy := eum) (by omega) (by omega)).mpr h)
                  refine G_iload C 143 dX10_peopleBy_141 rfl rfl ?_
                  have he : s_ppE B t q m = 0 := by unfold s_ppE; rw [if_neg k6, if_neg k15, if_neg k26, cut, if_neg (fun w => c46 (Sx42.trans w)), if_pos (Sx54.symm.trans c58)]
                  have hx2 : x_ppl (B (4 + ut)) (B 3 ut) um P i 0 = (Pk, ca) := by rw [hx, show um - k = 0 by omega]; rfl
                  exact G_iret C dX10_peopleBy_143 (⟨by unfold s_ppP; rw [if_pos he, cut, cum, hx2]; exact rl73, by unfold s_ppR; rw [if_pos he, cut, cum, hx2]⟩)
                ·
                  have n77 : k < um := (g_ltN (a := k) (b := um) (hx := Ey) (hy := eum) (by omega) (by omega)).mp c77
                  have r2 := rl73
                  obtain ⟨nT1, n1, l1, hr1⟩ := r2
                  refine G_aload C 82 dX10_peopleBy_80 rfl rfl ?_
                  refine G_iload C 84 dX10_peopleBy_82 rfl rfl ?_
                  refine G_iconst (v := 3) C 85 dX10_peopleBy_84 rfl rfl ?_
                  refine G_calli 88 (G_runV C Kc_X4_holds KV_X10_243 (by omega) (lS0 (by omega)) (eSh _ _ _ (by omega)) rfl (c_X4_holds 0 ut (by omega) pl 3 sl73) rfl rfl rfl (Nat.le_of_ble_eq_true rfl) rfl dX10_peopleBy_85) rfl (fun x85 s85 h85 => ?_)
                  obtain ⟨es85, h85⟩ := h85
                  have es85 := es85.symm
                  subst es85
                  refine G_if_ne C 94 91 dX10_peopleBy_88 rfl rfl (fun c88 => ?_) (fun c88 => ?_)
                  ·
                    have k88 := g_neT h85 c88
                    obtain ⟨a, c, ep, e3, hac⟩ := x_holT (z := z) (by omega) (by rw [← ez, ← cB_sz hr1.2.1 (by omega)]; exact k88)
                    have hc3 : c = 3 := by
                      by_cases hc : c < 2147483648
                      · exact ((nI_eq (a := 3) (by omega) hc).mp e3).symm
                      · omega
                    have cpl : pl.toNatClampNeg = a := by rw [ep, nI_clamp (by omega)]
                    refine G_aload_n (i := 0) C 95 dX10_peopleBy_94 rfl rfl rfl ?_
                    refine G_aload C 97 dX10_peopleBy_95 rfl rfl ?_
                    refine X10_246g C (by omega) 100 dX10_peopleBy_97 rfl ?_
                    refine G_iload C 102 dX10_peopleBy_100 rfl rfl ?_
                    refine G_iald (n := 40) C 103 (lS (by omega) (by decide)) (eSn _ _ _ (by omega)) (a) ep (by omega) (by decide) dX10_peopleBy_102 rfl (fun x102 ex102 => ?_)
                    have Sx102 : x102 = B (4 + ut) a := ex102.trans (cB_nu hr1.2.1 (by omega) (by omega))
                    refine G_aload C 105 dX10_peopleBy_103 rfl rfl ?_
                    refine X10_246g C (by omega) 108 dX10_peopleBy_105 rfl ?_
                    refine G_iload C 110 dX10_peopleBy_108 rfl rfl ?_
                    refine G_iconst (v := 1) C 111 dX10_peopleBy_110 rfl rfl ?_
                    refine G_iadd C 112 dX10_peopleBy_111 rfl (fun x111 ex111 => ?_)
                    have Nx111 : x111 = nI (a + 1) := g_addN ex111 ep rfl
                    refine G_iald (n := 40) C 113 (lS (by omega) (by decide)) (eSn _ _ _ (by omega)) ((a + 1)) Nx111 (by omega) (by decide) dX10_peopleBy_112 rfl (fun x112 ex112 => ?_)
                    have Sx112 : x112 = B (4 + ut) (a + 1) := ex112.trans (cB_nu hr1.2.1 (by omega) (by omega))
                    refine G_aload C 115 dX10_peopleBy_113 rfl rfl ?_
                    refine X10_246g C (by omega) 118 dX10_peopleBy_115 rfl ?_
                    refine G_iload C 120 dX10_peopleBy_118 rfl rfl ?_
                    refine G_iconst (v := 2) C 121 dX10_peopleBy_120 rfl rfl ?_
                    refine G_iadd C 122 dX10_peopleBy_121 rfl (fun x121 ex121 => ?_)
                    have Nx121 : x121 = nI (a + 2) := g_addN ex121 ep rfl
                    refine G_iald (n := 40) C 123 (lS (by omega) (by decide)) (eSn _ _ _ (by omega)) ((a + 2)) Nx121 (by omega) (by decide) dX10_peopleBy_122 rfl (fun x122 ex122 => ?_)
                    have Sx122 : x122 = B (4 + ut) (a + 2) := ex122.trans (cB_nu hr1.2.1 (by omega) (by omega))
                    refine G_calli 126 (G_runV C Kc_X10_citizen KV_X10_255 (by omega) (by decide) (eC _ _ _) rfl (c_X10_citizen 0 TX Pk B sl73 rl73 x102 x112 x122) rfl rfl rfl (Nat.le_of_ble_eq_true rfl) rfl dX10_peopleBy_123) rfl (fun x123 s123 h123 => ?_)
                    have r_1 : RC TX (s_ctP Pk x102 x112 x122) B s123 := h123.1
                    refine G_if_lt C 132 129 dX10_peopleBy_126 rfl rfl (fun c126 => ?_) (fun c126 => ?_)
                    ·
                      refine G_iinc (w := 3) C 135 dX10_peopleBy_132 rfl rfl rfl rfl (fun x132 ex132 => ?_)
                      have Nx132 : x132 = nI (a + 3) := g_addN ex132 ep rfl
                      show GW SC E _ 135 [some (.ref (e_ad E 0)), some (.int t), some (.int q), some (.int i), some (.int m), some (.ref (e_ad E (30 + 2 * ut))), some (.int ca), some (.int x132), some (.int y)] [] s123
                      refine G_iinc (w := 1) C 138 dX10_peopleBy_135 rfl rfl rfl rfl (fun x135 ex135 => ?_)
                      have Nx135 : x135 = nI (k + 1) := g_addN ex135 Ey rfl
                      show GW SC E _ 138 [some (.ref (e_ad E 0)), some (.int t), some (.int q), some (.int i), some (.int m), some (.ref (e_ad E (30 + 2 * ut))), some (.int ca), some (.int x132), some (.int x135)] [] s123
                      refine G_goto C 73 dX10_peopleBy_138 rfl ?_
                      exact ih73 (k + 1) (s_ctP Pk x102 x112 x122) ca x132 x135 s123 (g_cn (a := (k + 1)) Nx135 (by first | rfl | omega | (simp only [List.length_cons, List.length_drop]; done) | (simp only [List.length_cons, List.length_drop]; omega))) (by omega) (by rw [hx, show um - k = (um - (k + 1)) + 1 by omega, x_ppl, if_neg (by rw [← cB_sz hr1.2.1 (by omega)]; exact k88), cpl, ← Sx102, ← Sx112, ← Sx122, ← h123.2, if_pos c126, ex132]) (r_1) (by omega)
                    ·
                      refine G_iinc (w := 1) C 132 dX10_peopleBy_129 rfl rfl rfl rfl (fun x129 ex129 => ?_)
                      show GW SC E _ 132 [some (.ref (e_ad E 0)), some (.int t), some (.int q), some (.int i), some (.int m), some (.ref (e_ad E (30 + 2 * ut))), some (.int x129), some (.int pl), some (.int y)] [] s123
                      refine G_iinc (w := 3) C 135 dX10_peopleBy_132 rfl rfl rfl rfl (fun x132 ex132 => ?_)
                      have Nx132 : x132 = nI (a + 3) := g_addN ex132 ep rfl
                      show GW SC E _ 135 [some (.ref (e_ad E 0)), some (.int t), some (.int q), some (.int i), some (.int m), some (.ref (e_ad E (30 + 2 * ut))), some (.int x129), some (.int x132), some (.int y)] [] s123
                      refine G_iinc (w := 1) C 138 dX10_peopleBy_135 rfl rfl rfl rfl (fun x135 ex135 => ?_)
                      have Nx135 : x135 = nI (k + 1) := g_addN ex135 Ey rfl
                      show GW SC E _ 138 [some (.ref (e_ad E 0)), some (.int t), some (.int q), some (.int i), some (.int m), some (.ref (e_ad E (30 + 2 * ut))), some (.int x129), some (.int x132), some (.int x135)] [] s123
                      refine G_goto C 73 dX10_peopleBy_138 rfl ?_
                      exact ih73 (k + 1) (s_ctP Pk x102 x112 x122) x129 x132 x135 s123 (g_cn (a := (k + 1)) Nx135 (by first | rfl | omega | (simp only [List.length_cons, List.length_drop]; done) | (simp only [List.length_cons, List.length_drop]; omega))) (by omega) (by rw [hx, show um - k = (um - (k + 1)) + 1 by omega, x_ppl, if_neg (by rw [← cB_sz hr1.2.1 (by omega)]; exact k88), cpl, ← Sx102, ← Sx112, ← Sx122, ← h123.2, if_neg c126, ex132, ex129]) (r_1) (by omega)
                  ·
                    have k88 := h85.symm.trans c88
                    refine G_bipush (v := (-12)) C 93 dX10_peopleBy_91 rfl rfl ?_
                    have he : s_ppE B t q m = 0 := by unfold s_ppE; rw [if_neg k6, if_neg k15, if_neg k26, cut, if_neg (fun w => c46 (Sx42.trans w)), if_pos (Sx54.symm.trans c58)]
                    have hx2 : x_ppl (B (4 + ut)) (B 3 ut) um P i 0 = (Pk, -12) := by rw [hx, show um - k = (um - (k + 1)) + 1 by omega, x_ppl, if_pos (by rw [← cB_sz hr1.2.1 (by omega)]; exact k88)]
                    exact G_iret C dX10_peopleBy_93 (⟨by unfold s_ppP; rw [if_pos he, cut, cum, hx2]; exact rl73, by unfold s_ppR; rw [if_pos he, cut, cum, hx2]⟩)
            exact L73 (um + 1) 0 P 0 i 0 s (g_cn (a := 0) rfl (by first | rfl | omega)) (by omega) (rfl) (r) (by omega)
          ·
            refine G_bipush (v := (-13)) C 63 dX10_peopleBy_61 rfl rfl ?_
            exact G_iret C dX10_peopleBy_63 (⟨by unfold s_ppP; rw [if_neg (by unfold s_ppE; rw [if_neg k6, if_neg k15, if_neg k26, cut, if_neg (fun w => c46 (Sx42.trans w)), if_neg (fun w => c58 (Sx54.trans w))]; decide)]; exact ⟨nT, n, l, hR⟩, by unfold s_ppR s_ppE; rw [if_neg k6, if_neg k15, if_neg k26, cut, if_neg (fun w => c46 (Sx42.trans w)), if_neg (fun w => c58 (Sx54.trans w))]; rfl⟩)
        ·
          refine G_bipush (v := (-11)) C 51 dX10_peopleBy_49 rfl rfl ?_
          exact G_iret C dX10_peopleBy_51 (⟨by unfold s_ppP; rw [if_neg (by unfold s_ppE; rw [if_neg k6, if_neg k15, if_neg k26, cut, if_pos (Sx42.symm.trans c46)]; decide)]; exact ⟨nT, n, l, hR⟩, by unfold s_ppR s_ppE; rw [if_neg k6, if_neg k15, if_neg k26, cut, if_pos (Sx42.symm.trans c46)]; rfl⟩)
      ·
        have k26 := h23.symm.trans c26
        refine G_bipush (v := (-2)) C 31 dX10_peopleBy_29 rfl rfl ?_
        exact G_iret C dX10_peopleBy_31 (⟨by unfold s_ppP; rw [if_neg (by unfold s_ppE; rw [if_neg k6, if_neg k15, if_pos k26]; decide)]; exact ⟨nT, n, l, hR⟩, by unfold s_ppR s_ppE; rw [if_neg k6, if_neg k15, if_pos k26]; rfl⟩)
theorem dX10_taken_0 : decode cX10_taken 0 = .ok (.iload_n 2, 1) := by decide +kernel
theorem dX10_taken_1 : decode cX10_taken 1 = .ok (.iconst 0, 1) := by decide +kernel
theorem dX10_taken_2 : decode cX10_taken 2 = .ok (.bipush 6, 2) := by decide +kernel
theorem dX10_taken_4 : decode cX10_taken 4 = .ok (.invokestatic 112, 3) := by decide +kernel
theorem dX10_taken_7 : decode cX10_taken 7 = .ok (.ifCond .ne 6, 3) := by decide +kernel
theorem dX10_taken_10 : decode cX10_taken 10 = .ok (.bipush (-2), 2) := by decide +kernel
theorem dX10_taken_12 : decode cX10_taken 12 = .ok (.ireturn, 1) := by decide +kernel
theorem dX10_taken_13 : decode cX10_taken 13 = .ok (.iload_n 1, 1) := by decide +kernel
theorem dX10_taken_14 : decode cX10_taken 14 = .ok (.iconst 0, 1) := by decide +kernel
theorem dX10_taken_15 : decode cX10_taken 15 = .ok (.bipush 11, 2) := by decide +kernel
theorem dX10_taken_17 : decode cX10_taken 17 = .ok (.invokestatic 112, 3) := by decide +kernel
theorem dX10_taken_20 : decode cX10_taken 20 = .ok (.ifCond .ne 6, 3) := by decide +kernel
theorem dX10_taken_23 : decode cX10_taken 23 = .ok (.bipush (-12), 2) := by decide +kernel
theorem dX10_taken_25 : decode cX10_taken 25 = .ok (.ireturn, 1) := by decide +kernel
theorem dX10_taken_26 : decode cX10_taken 26 = .ok (.iload_n 1, 1) := by decide +kernel
theorem dX10_taken_27 : decode cX10_taken 27 = .ok (.bipush 6, 2) := by decide +kernel
theorem dX10_taken_29 : decode cX10_taken 29 = .ok (.if_icmp .lt 7, 3) := by decide +kernel
theorem dX10_taken_32 : decode cX10_taken 32 = .ok (.iconst 1, 1) := by decide +kernel
theorem dX10_taken_33 : decode cX10_taken 33 = .ok (.goto 4, 3) := by decide +kernel
theorem dX10_taken_36 : decode cX10_taken 36 = .ok (.iconst 0, 1) := by decide +kernel
theorem dX10_taken_37 : decode cX10_taken 37 = .ok (.istore_n 3, 1) := by decide +kernel
theorem dX10_taken_38 : decode cX10_taken 38 = .ok (.iload_n 3, 1) := by decide +kernel
theorem dX10_taken_39 : decode cX10_taken 39 = .ok (.ifCond .eq 10, 3) := by decide +kernel
theorem dX10_taken_42 : decode cX10_taken 42 = .ok (.iload_n 1, 1) := by decide +kernel
theorem dX10_taken_43 : decode cX10_taken 43 = .ok (.bipush 6, 2) := by decide +kernel
theorem dX10_taken_45 : decode cX10_taken 45 = .ok (.isub, 1) := by decide +kernel
theorem dX10_taken_46 : decode cX10_taken 46 = .ok (.goto 4, 3) := by decide +kernel
theorem dX10_taken_49 : decode cX10_taken 49 = .ok (.iload_n 1, 1) := by decide +kernel
theorem dX10_taken_50 : decode cX10_taken 50 = .ok (.istore 4, 2) := by decide +kernel
theorem dX10_taken_52 : decode cX10_taken 52 = .ok (.aload_n 0, 1) := by decide +kernel
theorem dX10_taken_53 : decode cX10_taken 53 = .ok (.getfield 57, 3) := by decide +kernel
theorem dX10_taken_56 : decode cX10_taken 56 = .ok (.iload 4, 2) := by decide +kernel
theorem dX10_taken_58 : decode cX10_taken 58 = .ok (.invokevirtual 139, 3) := by decide +kernel
theorem dX10_taken_61 : decode cX10_taken 61 = .ok (.ifCond .ne 6, 3) := by decide +kernel
theorem dX10_taken_64 : decode cX10_taken 64 = .ok (.bipush (-11), 2) := by decide +kernel
theorem dX10_taken_66 : decode cX10_taken 66 = .ok (.ireturn, 1) := by decide +kernel
theorem dX10_taken_67 : decode cX10_taken 67 = .ok (.iload_n 3, 1) := by decide +kernel
theorem dX10_taken_68 : decode cX10_taken 68 = .ok (.ifCond .eq 25, 3) := by decide +kernel
theorem dX10_taken_71 : decode cX10_taken 71 = .ok (.iload_n 2, 1) := by decide +kernel
theorem dX10_taken_72 : decode cX10_taken 72 = .ok (.bipush 6, 2) := by decide +kernel
theorem dX10_taken_74 : decode cX10_taken 74 = .ok (.if_icmp .ne 16, 3) := by decide +kernel
theorem dX10_taken_77 : decode cX10_taken 77 = .ok (.aload_n 0, 1) := by decide +kernel
theorem dX10_taken_78 : decode cX10_taken 78 = .ok (.getfield 57, 3) := by decide +kernel
theorem dX10_taken_81 : decode cX10_taken 81 = .ok (.getfield 193, 3) := by decide +kernel
theorem dX10_taken_84 : decode cX10_taken 84 = .ok (.iload 4, 2) := by decide +kernel
theorem dX10_taken_86 : decode cX10_taken 86 = .ok (.iaload, 1) := by decide +kernel
theorem dX10_taken_87 : decode cX10_taken 87 = .ok (.goto 5, 3) := by decide +kernel
theorem dX10_taken_90 : decode cX10_taken 90 = .ok (.bipush (-13), 2) := by decide +kernel
theorem dX10_taken_92 : decode cX10_taken 92 = .ok (.ireturn, 1) := by decide +kernel
theorem dX10_taken_93 : decode cX10_taken 93 = .ok (.aload_n 0, 1) := by decide +kernel
theorem dX10_taken_94 : decode cX10_taken 94 = .ok (.getfield 57, 3) := by decide +kernel
theorem dX10_taken_97 : decode cX10_taken 97 = .ok (.iload 4, 2) := by decide +kernel
theorem dX10_taken_99 : decode cX10_taken 99 = .ok (.invokevirtual 258, 3) := by decide +kernel
theorem dX10_taken_102 : decode cX10_taken 102 = .ok (.iload_n 2, 1) := by decide +kernel
theorem dX10_taken_103 : decode cX10_taken 103 = .ok (.invokevirtual 262, 3) := by decide +kernel
theorem dX10_taken_106 : decode cX10_taken 106 = .ok (.ifCond .eq 8, 3) := by decide +kernel
theorem dX10_taken_109 : decode cX10_taken 109 = .ok (.iload 4, 2) := by decide +kernel
theorem dX10_taken_111 : decode cX10_taken 111 = .ok (.goto 5, 3) := by decide +kernel
theorem dX10_taken_114 : decode cX10_taken 114 = .ok (.bipush (-13), 2) := by decide +kernel
theorem dX10_taken_116 : decode cX10_taken 116 = .ok (.ireturn, 1) := by decide +kernel
set_option maxHeartbeats 4000000 in
set_option maxRecDepth 100000 in
theorem c_X10_taken (d : Nat) (TX : gTX) (P B s : gS) (hR0 : RC TX P B s) (i q : Int32) : gMt SC yX10_taken cX10_taken 5 (some .int) (d + 5) (fun ad => [.ref (ad 0), .int i, .int q]) s (gQi SC (fun r s' => RC TX P B s' ∧ r = s_taken P i q)) := by
  obtain ⟨nT, n, l, hR⟩ := hR0
  have hI := hR.1
  have hn6 : n ≤ 6 := hI.2.2.1.2.1
  have hl6 : l < 6 := cI_l6 hI
  have hxn : x_n P = n := x_nOf hI.2.2.1.1 hn6
  have hbI := hR.2.2
  refine gMt_of SC_ok (by decide +kernel) (fun ad => [some (.ref (ad 0)), some (.int i), some (.int q), none, none]) (fun _ => rfl) (fun _ => rfl) (fun _ => Nat.le_of_ble_eq_true rfl) (fun E C0 => ?_)
  have C : gCx SC E RX10 cX10_taken 5 (some .int) (d + 5) := C0
  have fm : cI TX nT n l 45 P s := hI
  have fq : Fr mQ s s := Fr.rf
  refine G_iload_n (i := 2) C 1 dX10_taken_0 rfl rfl rfl ?_
  refine G_iconst (v := 0) C 2 dX10_taken_1 rfl rfl ?_
  refine G_bipush (v := 6) C 4 dX10_taken_2 rfl rfl ?_
  refine G_calli 7 (G_runS C Kc_X10_within KS_X10_112 (by omega) (c_X10_within 0 q 0 6 s) rfl rfl (Nat.le_of_ble_eq_true rfl) rfl dX10_taken_4) rfl (fun x4 s4 h4 => ?_)
  obtain ⟨es4, h4⟩ := h4
  have es4 := es4.symm
  subst es4
  refine G_if_ne C 13 10 dX10_taken_7 rfl rfl (fun c7 => ?_) (fun c7 => ?_)
  ·
    have k7 := g_neT h4 c7
    refine G_iload_n (i := 1) C 14 dX10_taken_13 rfl rfl rfl ?_
    refine G_iconst (v := 0) C 15 dX10_taken_14 rfl rfl ?_
    refine G_bipush (v := 11) C 17 dX10_taken_15 rfl rfl ?_
    refine G_calli 20 (G_runS C Kc_X10_within KS_X10_112 (by omega) (c_X10_within 0 i 0 11 s) rfl rfl (Nat.le_of_ble_eq_true rfl) rfl dX10_taken_17) rfl (fun x17 s17 h17 => ?_)
    obtain ⟨es17, h17⟩ := h17
    have es17 := es17.symm
    subst es17
    refine G_if_ne C 26 23 dX10_taken_20 rfl rfl (fun c20 => ?_) (fun c20 => ?_)
    ·
      have k20 := g_neT h17 c20
      refine G_iload_n (i := 1) C 27 dX10_taken_26 rfl rfl rfl ?_
      refine G_bipush (v := 6) C 29 dX10_taken_27 rfl rfl ?_
      refine G_icmp_lt C 36 32 dX10_taken_29 rfl rfl (fun c29 => ?_) (fun c29 => ?_)
      ·
        refine G_iconst (v := 0) C 37 dX10_taken_36 rfl rfl ?_
        refine G_istore_n (i := 3) (L' := [some (.ref (e_ad E 0)), some (.int i), some (.int q), some (.int 0), none]) C 38 dX10_taken_37 rfl rfl (Nat.le_of_ble_eq_true rfl) rfl rfl ?_
        refine G_iload_n (i := 3) C 39 dX10_taken_38 rfl rfl rfl ?_
        refine G_if_eq C 49 42 dX10_taken_39 rfl rfl (fun _ => ?_) (fun c => absurd c (by decide))
        refine G_iload_n (i := 1) C 50 dX10_taken_49 rfl rfl rfl ?_
        refine G_istore (L' := [some (.ref (e_ad E 0)), some (.int i), some (.int q), some (.int 0), some (.int i)]) C 52 dX10_taken_50 rfl (Nat.le_of_ble_eq_true rfl) rfl rfl ?_
        refine G_aload_n (i := 0) C 53 dX10_taken_52 rfl rfl rfl ?_
        refine X10_57g C 56 dX10_taken_53 rfl ?_
        refine G_iload C 58 dX10_taken_56 rfl rfl ?_
        refine G_calli 61 (G_runV C Kc_X9_isOne KV_X10_139 (by omega) (lW0 (Or.inl rfl)) (eW _ _ _ (Or.inl rfl)) rfl (c_X9_isOne 0 45 n (Or.inl rfl) s (cI_n fm) i) rfl rfl rfl (Nat.le_of_ble_eq_true rfl) rfl dX10_taken_58) rfl (fun x58 s58 h58 => ?_)
        obtain ⟨es58, h58⟩ := h58
        have es58 := es58.symm
        subst es58
        refine G_if_ne C 67 64 dX10_taken_61 rfl rfl (fun c61 => ?_) (fun c61 => ?_)
        ·
          have k61 := g_neT h58 c61
          obtain ⟨up, hup, eup⟩ := x_oneT hn6 k61
          have cup : i.toNatClampNeg = up := by rw [eup, nI_clamp (by omega)]
          refine G_iload_n (i := 3) C 68 dX10_taken_67 rfl rfl rfl ?_
          refine G_if_eq C 93 71 dX10_taken_68 rfl rfl (fun _ => ?_) (fun c => absurd c (by decide))
          refine G_aload_n (i := 0) C 94 dX10_taken_93 rfl rfl rfl ?_
          refine X10_57g C 97 dX10_taken_94 rfl ?_
          refine G_iload C 99 dX10_taken_97 rfl rfl ?_
          refine G_callr 102 (G_runV C Kc_X9_nature KV_X10_258 (by omega) (lW0 (Or.inl rfl)) (eW _ _ _ (Or.inl rfl)) rfl (c_X9_nature 0 TX nT n l 45 P s fm i up eup (by omega)) rfl rfl rfl (Nat.le_of_ble_eq_true rfl) rfl dX10_taken_99) rfl (fun q99 s99 h99 => ?_)
          obtain ⟨es99, h99⟩ := h99
          have es99 := es99.symm
          subst es99
          obtain ⟨kdq99, hkdq99, ekdq99, rfl⟩ := h99
          refine G_iload_n (i := 2) C 103 dX10_taken_102 rfl rfl rfl ?_
          refine G_calli 106 (D_X10_262 C (by omega) kdq99 hkdq99 q (Nat.le_of_ble_eq_true rfl) rfl dX10_taken_103) rfl (fun x103 s103 h103 => ?_)
          obtain ⟨es103, h103⟩ := h103
          have es103 := es103.symm
          subst es103
          refine G_if_eq C 114 109 dX10_taken_106 rfl rfl (fun c106 => ?_) (fun c106 => ?_)
          ·
            have k106 := h103.symm.trans c106
            refine G_bipush (v := (-13)) C 116 dX10_taken_114 rfl rfl ?_
            exact G_iret C dX10_taken_116 (⟨RC_q hR fq, by unfold s_taken; rw [if_neg k7, if_neg k20, if_pos c29, hxn, if_neg k61, cup, if_pos (by rw [ekdq99, ← h103]; exact c106)]⟩)
          ·
            have k106 := g_neT h103 c106
            refine G_iload C 111 dX10_taken_109 rfl rfl ?_
            refine G_goto C 116 dX10_taken_111 rfl ?_
            exact G_iret C dX10_taken_116 (⟨RC_q hR fq, by unfold s_taken; rw [if_neg k7, if_neg k20, if_pos c29, hxn, if_neg k61, cup, if_neg (by rw [ekdq99, ← h103]; exact c106)]⟩)
        ·
          have k61 := h58.symm.trans c61
          refine G_bipush (v := (-11)) C 66 dX10_taken_64 rfl rfl ?_
          exact G_iret C dX10_taken_66 (⟨RC_q hR fq, by unfold s_taken; rw [if_neg k7, if_neg k20, if_pos c29, hxn, if_pos k61]⟩)
      ·
        refine G_iconst (v := 1) C 33 dX10_taken_32 rfl rfl ?_
        refine G_goto C 37 dX10_taken_33 rfl ?_
        refine G_istore_n (i := 3) (L' := [some (.ref (e_ad E 0)), some (.int i), some (.int q), some (.int 1), none]) C 38 dX10_taken_37 rfl rfl (Nat.le_of_ble_eq_true rfl) rfl rfl ?_
        refine G_iload_n (i := 3) C 39 dX10_taken_38 rfl rfl rfl ?_
        refine G_if_eq C 49 42 dX10_taken_39 rfl rfl (fun c => absurd c (by decide)) (fun _ => ?_)
        refine G_iload_n (i := 1) C 43 dX10_taken_42 rfl rfl rfl ?_
        refine G_bipush (v := 6) C 45 dX10_taken_43 rfl rfl ?_
        refine G_isub C 46 dX10_taken_45 rfl (fun x45 ex45 => ?_)
        refine G_goto C 50 dX10_taken_46 rfl ?_
        refine G_istore (L' := [some (.ref (e_ad E 0)), some (.int i), some (.int q), some (.int 1), some (.int x45)]) C 52 dX10_taken_50 rfl (Nat.le_of_ble_eq_true rfl) rfl rfl ?_
        refine G_aload_n (i := 0) C 53 dX10_taken_52 rfl rfl rfl ?_
        refine X10_57g C 56 dX10_taken_53 rfl ?_
        refine G_iload C 58 dX10_taken_56 rfl rfl ?_
        refine G_calli 61 (G_runV C Kc_X9_isOne KV_X10_139 (by omega) (lW0 (Or.inl rfl)) (eW _ _ _ (Or.inl rfl)) rfl (c_X9_isOne 0 45 n (Or.inl rfl) s (cI_n fm) x45) rfl rfl rfl (Nat.le_of_ble_eq_true rfl) rfl dX10_taken_58) rfl (fun x58 s58 h58 => ?_)
        obtain ⟨es58, h58⟩ := h58
        have es58 := es58.symm
        subst es58
        refine G_if_ne C 67 64 dX10_taken_61 rfl rfl (fun c61 => ?_) (fun c61 => ?_)
        ·
          have k61 := g_neT h58 c61
          obtain ⟨up, hup, eup⟩ := x_oneT hn6 k61
          have cup : x45.toNatClampNeg = up := by rw [eup, nI_clamp (by omega)]
          refine G_iload_n (i := 3) C 68 dX10_taken_67 rfl rfl rfl ?_
          refine G_if_eq C 93 71 dX10_taken_68 rfl rfl (fun c => absurd c (by decide)) (fun _ => ?_)
          refine G_iload_n (i := 2) C 72 dX10_taken_71 rfl rfl rfl ?_
          refine G_bipush (v := 6) C 74 dX10_taken_72 rfl rfl ?_
          refine G_icmp_ne C 90 77 dX10_taken_74 rfl rfl (fun c74 => ?_) (fun c74 => ?_)
          ·
            refine G_bipush (v := (-13)) C 92 dX10_taken_90 rfl rfl ?_
            exact G_iret C dX10_taken_92 (⟨RC_q hR fq, by unfold s_taken; rw [if_neg k7, if_neg k20, if_neg c29, hxn, ← ex45, if_neg k61, if_neg c74]⟩)
          ·
            refine G_aload_n (i := 0) C 78 dX10_taken_77 rfl rfl rfl ?_
            refine X10_57g C 81 dX10_taken_78 rfl ?_
            refine X10_193g C (Or.inl rfl) 84 dX10_taken_81 rfl ?_
            refine G_iload C 86 dX10_taken_84 rfl rfl ?_
            refine G_iald (n := 6) C 87 (lW (Or.inl rfl) (by decide)) (eW5 _ _ _ (Or.inl rfl)) (up) eup (by omega) (by decide) dX10_taken_86 rfl (fun x86 ex86 => ?_)
            have Sx86 : x86 = P 5 (up) := ex86.trans (congrFun (congrFun fm.2.1 5) _)
            refine G_goto C 92 dX10_taken_87 rfl ?_
            exact G_iret C dX10_taken_92 (⟨RC_q hR fq, by unfold s_taken; rw [if_neg k7, if_neg k20, if_neg c29, hxn, ← ex45, if_neg k61, if_pos c74, cup]; exact Sx86⟩)
        ·
          have k61 := h58.symm.trans c61
          refine G_bipush (v := (-11)) C 66 dX10_taken_64 rfl rfl ?_
          exact G_iret C dX10_taken_66 (⟨RC_q hR fq, by unfold s_taken; rw [if_neg k7, if_neg k20, if_neg c29, hxn, ← ex45, if_pos k61]⟩)
    ·
      have k20 := h17.symm.trans c20
      refine G_bipush (v := (-12)) C 25 dX10_taken_23 rfl rfl ?_
      exact G_iret C dX10_taken_25 (⟨RC_q hR fq, by unfold s_taken; rw [if_neg k7, if_pos k20]⟩)
  ·
    have k7 := h4.symm.trans c7
    refine G_bipush (v := (-2)) C 12 dX10_taken_10 rfl rfl ?_
    exact G_iret C dX10_taken_12 (⟨RC_q hR fq, by unfold s_taken; rw [if_pos k7]⟩)
