theorem i_sub_toInt (q : Int32) {c : Nat} (hc : c ≤ 100) : (q - nI c).toInt = q.toInt - c ∧ -2147483648 ≤ q.toInt - c ∨ (q - nI c).toInt = q.toInt - c + 4294967296 ∧ q.toInt - c < -2147483648 := by
  have t := Int32.toInt_sub q (nI c)
  have h1 := Int32.le_toInt q
  have h2 := Int32.toInt_lt q
  rw [nI_toInt (by omega)] at t
  rw [Int.bmod_def] at t
  split at t <;> omega
theorem y_oneK {q : Int32} {n c : Nat} (hn : n ≤ 6) (hc : c ≤ 100) (hc1 : 1 ≤ c) : x_in q (nI c) (nI (c - 1 + n)) = x_one (q - nI c) n := by
  have t := i_sub_toInt q hc
  have h2 := Int32.toInt_lt q
  have e0 : (0 : Int32).toInt = 0 := rfl
  unfold x_in x_one
  simp only [Int32.lt_iff_toInt_lt, nI_toInt (n := c) (by omega), nI_toInt (n := n) (by omega), nI_toInt (n := c - 1 + n) (by omega), e0]
  have h3 := Int32.toInt_lt (q - nI c)
  generalize (q - nI c).toInt = r at t h3
  have h1 := Int32.le_toInt q
  generalize q.toInt = a at t h2 h1
  repeat' split
  all_goals first | rfl | (exfalso; omega)
theorem y_whK {q : Int32} {n : Nat} (hn : n ≤ 6) : x_in q 20 (nI (19 + 10 * n)) = if q < 20 then 0 else x_one (q / 10 - 2) n := by
  unfold x_in
  by_cases h : q < 20
  · rw [if_pos h, if_pos h]
  · rw [if_neg h, if_neg h]
    have h0 : ¬ q < 0 := fun z => h (Int32.lt_trans z (by decide))
    obtain ⟨j, hj, rfl⟩ := nI_of h0
    rw [show (20 : Int32) = nI 20 from rfl, nI_ltI hj (by decide)] at h
    have e : nI j / 10 - 2 = nI (j / 10 - 2) := by
      rw [show (10 : Int32) = nI 10 from rfl, pk_div hj (by decide) (by decide), show (2 : Int32) = nI 2 from rfl, pk_sub (by omega)]
    rw [e]
    unfold x_one
    rw [if_neg (nI_pos (by omega))]
    by_cases h3 : j / 10 - 2 < n
    · rw [if_neg (fun z => by have := (nI_ltI (by omega) hj).mp z; omega), if_pos ((nI_ltI (by omega) (by omega)).mpr h3)]
    · rw [if_pos ((nI_ltI (by omega) hj).mpr (by omega)), if_neg (fun z => h3 ((nI_ltI (by omega) (by omega)).mp z))]
theorem x_run_1 (TX : gTX) (P : gS) (k : Nat) : x_run TX k P 1 = P 1 := x_run_a TX P (by decide) (by decide) (by decide) k
theorem dX11_put_0 : decode cX11_put 0 = .ok (.aload_n 0, 1) := by decide +kernel
theorem dX11_put_1 : decode cX11_put 1 = .ok (.iload_n 1, 1) := by decide +kernel
theorem dX11_put_2 : decode cX11_put 2 = .ok (.invokevirtual 164, 3) := by decide +kernel
theorem dX11_put_5 : decode cX11_put 5 = .ok (.ifCond .ne 6, 3) := by decide +kernel
theorem dX11_put_8 : decode cX11_put 8 = .ok (.bipush (-5), 2) := by decide +kernel
theorem dX11_put_10 : decode cX11_put 10 = .ok (.ireturn, 1) := by decide +kernel
theorem dX11_put_11 : decode cX11_put 11 = .ok (.iload_n 2, 1) := by decide +kernel
theorem dX11_put_12 : decode cX11_put 12 = .ok (.ifCond .ne 8, 3) := by decide +kernel
theorem dX11_put_15 : decode cX11_put 15 = .ok (.bipush 8, 2) := by decide +kernel
theorem dX11_put_17 : decode cX11_put 17 = .ok (.goto 15, 3) := by decide +kernel
theorem dX11_put_20 : decode cX11_put 20 = .ok (.iload_n 2, 1) := by decide +kernel
theorem dX11_put_21 : decode cX11_put 21 = .ok (.iconst 3, 1) := by decide +kernel
theorem dX11_put_22 : decode cX11_put 22 = .ok (.if_icmp .ne 7, 3) := by decide +kernel
theorem dX11_put_25 : decode cX11_put 25 = .ok (.iconst 1, 1) := by decide +kernel
theorem dX11_put_26 : decode cX11_put 26 = .ok (.goto 6, 3) := by decide +kernel
theorem dX11_put_29 : decode cX11_put 29 = .ok (.sipush 1023, 3) := by decide +kernel
theorem dX11_put_32 : decode cX11_put 32 = .ok (.istore 4, 2) := by decide +kernel
theorem dX11_put_34 : decode cX11_put 34 = .ok (.iload_n 2, 1) := by decide +kernel
theorem dX11_put_35 : decode cX11_put 35 = .ok (.iconst 0, 1) := by decide +kernel
theorem dX11_put_36 : decode cX11_put 36 = .ok (.iconst 3, 1) := by decide +kernel
theorem dX11_put_37 : decode cX11_put 37 = .ok (.invokestatic 78, 3) := by decide +kernel
theorem dX11_put_40 : decode cX11_put 40 = .ok (.ifCond .eq 13, 3) := by decide +kernel
theorem dX11_put_43 : decode cX11_put 43 = .ok (.iload_n 3, 1) := by decide +kernel
theorem dX11_put_44 : decode cX11_put 44 = .ok (.iconst 0, 1) := by decide +kernel
theorem dX11_put_45 : decode cX11_put 45 = .ok (.iload 4, 2) := by decide +kernel
theorem dX11_put_47 : decode cX11_put 47 = .ok (.invokestatic 78, 3) := by decide +kernel
theorem dX11_put_50 : decode cX11_put 50 = .ok (.ifCond .ne 6, 3) := by decide +kernel
theorem dX11_put_53 : decode cX11_put 53 = .ok (.bipush (-7), 2) := by decide +kernel
theorem dX11_put_55 : decode cX11_put 55 = .ok (.ireturn, 1) := by decide +kernel
theorem dX11_put_56 : decode cX11_put 56 = .ok (.aload_n 0, 1) := by decide +kernel
theorem dX11_put_57 : decode cX11_put 57 = .ok (.getfield 16, 3) := by decide +kernel
theorem dX11_put_60 : decode cX11_put 60 = .ok (.iconst 4, 1) := by decide +kernel
theorem dX11_put_61 : decode cX11_put 61 = .ok (.iload_n 1, 1) := by decide +kernel
theorem dX11_put_62 : decode cX11_put 62 = .ok (.imul, 1) := by decide +kernel
theorem dX11_put_63 : decode cX11_put 63 = .ok (.iload_n 2, 1) := by decide +kernel
theorem dX11_put_64 : decode cX11_put 64 = .ok (.iadd, 1) := by decide +kernel
theorem dX11_put_65 : decode cX11_put 65 = .ok (.iaload, 1) := by decide +kernel
theorem dX11_put_66 : decode cX11_put 66 = .ok (.istore 5, 2) := by decide +kernel
theorem dX11_put_68 : decode cX11_put 68 = .ok (.aload_n 0, 1) := by decide +kernel
theorem dX11_put_69 : decode cX11_put 69 = .ok (.getfield 16, 3) := by decide +kernel
theorem dX11_put_72 : decode cX11_put 72 = .ok (.iconst 4, 1) := by decide +kernel
theorem dX11_put_73 : decode cX11_put 73 = .ok (.iload_n 1, 1) := by decide +kernel
theorem dX11_put_74 : decode cX11_put 74 = .ok (.imul, 1) := by decide +kernel
theorem dX11_put_75 : decode cX11_put 75 = .ok (.iload_n 2, 1) := by decide +kernel
theorem dX11_put_76 : decode cX11_put 76 = .ok (.iadd, 1) := by decide +kernel
theorem dX11_put_77 : decode cX11_put 77 = .ok (.iload_n 3, 1) := by decide +kernel
theorem dX11_put_78 : decode cX11_put 78 = .ok (.iastore, 1) := by decide +kernel
theorem dX11_put_79 : decode cX11_put 79 = .ok (.iload 5, 2) := by decide +kernel
theorem dX11_put_81 : decode cX11_put 81 = .ok (.ireturn, 1) := by decide +kernel
set_option maxHeartbeats 4000000 in
set_option maxRecDepth 100000 in
theorem c_X11_put (d : Nat) (TX : gTX) (P B s : gS) (hR0 : RM TX P B s) (p q v : Int32) : gMt SM yX11_put cX11_put 6 (some .int) (d + 3) (fun ad => [.ref (ad 0), .int p, .int q, .int v]) s (gQi SM (fun r s' => RM TX (s_puP P p q v) B s' ∧ r = s_puR P p q v)) := by
  obtain ⟨nT, n, l, hR⟩ := hR0
  have hI := hR.1
  have hn6 : n ≤ 6 := hI.2.1.2.1
  have hl6 : l < 6 := mI_l6 hI
  have hxn : x_n P = n := x_nOf hI.2.1.1 hn6
  have hbI := hR.2.2
  have hnT6 : nT ≤ 6 := hI.2.1.2.2.2.2.1
  obtain ⟨tn0, htn0, etn0⟩ := hbI.2.1
  refine gMt_of SM_ok (by decide +kernel) (fun ad => [some (.ref (ad 0)), some (.int p), some (.int q), some (.int v), none, none]) (fun _ => rfl) (fun _ => rfl) (fun _ => Nat.le_of_ble_eq_true rfl) (fun E C0 => ?_)
  have C : gCx SM E RX11 cX11_put 6 (some .int) (d + 3) := C0
  have fn : Qn s s := Qn.rf
  have i : mI TX nT n l P s := hI
  refine G_aload_n (i := 0) C 1 dX11_put_0 rfl rfl rfl ?_
  refine G_iload_n (i := 1) C 2 dX11_put_1 rfl rfl rfl ?_
  refine G_calli 5 (G_runV C Kc_X11_isOne KV_X11_164 (by omega) (by decide) (eM _ _ _) rfl (c_X11_isOne 0 n hn6 s (mI_n i) p) rfl rfl rfl (Nat.le_of_ble_eq_true rfl) rfl dX11_put_2) rfl (fun x2 s2 h2 => ?_)
  obtain ⟨es2, h2⟩ := h2
  have es2 := es2.symm
  subst es2
  refine G_if_ne C 11 8 dX11_put_5 rfl rfl (fun c5 => ?_) (fun c5 => ?_)
  ·
    have k5 := g_neT h2 c5
    obtain ⟨up, hup, eup⟩ := x_oneT hn6 k5
    have cup : p.toNatClampNeg = up := by rw [eup, nI_clamp (by omega)]
    refine G_iload_n (i := 2) C 12 dX11_put_11 rfl rfl rfl ?_
    refine G_if_ne C 20 15 dX11_put_12 rfl rfl (fun c12 => ?_) (fun c12 => ?_)
    ·
      refine G_iload_n (i := 2) C 21 dX11_put_20 rfl rfl rfl ?_
      refine G_iconst (v := 3) C 22 dX11_put_21 rfl rfl ?_
      refine G_icmp_ne C 29 25 dX11_put_22 rfl rfl (fun c22 => ?_) (fun c22 => ?_)
      ·
        refine G_sipush (v := 1023) C 32 dX11_put_29 rfl rfl ?_
        refine G_istore (L' := [some (.ref (e_ad E 0)), some (.int p), some (.int q), some (.int v), some (.int 1023), none]) C 34 dX11_put_32 rfl (Nat.le_of_ble_eq_true rfl) rfl rfl ?_
        refine G_iload_n (i := 2) C 35 dX11_put_34 rfl rfl rfl ?_
        refine G_iconst (v := 0) C 36 dX11_put_35 rfl rfl ?_
        refine G_iconst (v := 3) C 37 dX11_put_36 rfl rfl ?_
        refine G_calli 40 (G_runS C Kc_X11_in KS_X11_78 (by omega) (c_X11_in 0 q 0 3 s) rfl rfl (Nat.le_of_ble_eq_true rfl) rfl dX11_put_37) rfl (fun x37 s37 h37 => ?_)
        obtain ⟨es37, h37⟩ := h37
        have es37 := es37.symm
        subst es37
        refine G_if_eq C 53 43 dX11_put_40 rfl rfl (fun c40 => ?_) (fun c40 => ?_)
        ·
          have k40 := h37.symm.trans c40
          refine G_bipush (v := (-7)) C 55 dX11_put_53 rfl rfl ?_
          exact G_iret C dX11_put_55 (⟨by unfold s_puP s_puOk; rw [hxn, if_neg k5, if_pos k40, if_pos rfl]; exact ⟨nT, n, l, hR⟩, by unfold s_puR s_puOk; rw [hxn, if_neg k5, if_pos k40, if_pos rfl]⟩)
        ·
          have k40 := g_neT h37 c40
          refine G_iload_n (i := 3) C 44 dX11_put_43 rfl rfl rfl ?_
          refine G_iconst (v := 0) C 45 dX11_put_44 rfl rfl ?_
          refine G_iload C 47 dX11_put_45 rfl rfl ?_
          refine G_calli 50 (G_runS C Kc_X11_in KS_X11_78 (by omega) (c_X11_in 0 v 0 1023 s) rfl rfl (Nat.le_of_ble_eq_true rfl) rfl dX11_put_47) rfl (fun x47 s47 h47 => ?_)
          obtain ⟨es47, h47⟩ := h47
          have es47 := es47.symm
          subst es47
          refine G_if_ne C 56 53 dX11_put_50 rfl rfl (fun c50 => ?_) (fun c50 => ?_)
          ·
            have k50 := g_neT h47 c50
            obtain ⟨uq, huq, euq⟩ := x_inR (b := 3) k40 rfl (by decide)
            have zq : uq = 1 ∨ uq = 2 := by
              have z0 : ¬ uq = 0 := fun z => c12 (by rw [euq, z]; rfl)
              have z3 : ¬ uq = 3 := fun z => c22 (by rw [euq, z]; rfl)
              omega
            rcases zq with e1 | e1
            ·
              have eq1 : q = 1 := by rw [euq, e1]; rfl
              refine G_aload_n (i := 0) C 57 dX11_put_56 rfl rfl rfl ?_
              refine X11_16g C 60 dX11_put_57 rfl ?_
              refine G_iconst (v := 4) C 61 dX11_put_60 rfl rfl ?_
              refine G_iload_n (i := 1) C 62 dX11_put_61 rfl rfl rfl ?_
              refine G_imul C 63 dX11_put_62 rfl (fun x62 ex62 => ?_)
              have Nx62 : x62 = nI (4 * up) := g_mulN ex62 rfl eup
              refine G_iload_n (i := 2) C 64 dX11_put_63 rfl rfl rfl ?_
              refine G_iadd C 65 dX11_put_64 rfl (fun x64 ex64 => ?_)
              have Nx64 : x64 = nI ((4 * up) + 1) := g_addN ex64 Nx62 eq1
              refine G_iald (n := 24) C 66 (by decide) (eMk (by decide) _ _ _) (((4 * up) + 1)) Nx64 (by omega) (by decide) dX11_put_65 rfl (fun x65 ex65 => ?_)
              have Sx65 : x65 = P 3 up := ex65.trans (congrFun (congrFun i.1 3) up)
              obtain ⟨mx65, hmx65, emx65⟩ := (mI_p i (p := up) (by omega)).2.1
              refine G_istore (L' := [some (.ref (e_ad E 0)), some (.int p), some (.int q), some (.int v), some (.int 1023), some (.int x65)]) C 68 dX11_put_66 rfl (Nat.le_of_ble_eq_true rfl) rfl rfl ?_
              refine G_aload_n (i := 0) C 69 dX11_put_68 rfl rfl rfl ?_
              refine X11_16g C 72 dX11_put_69 rfl ?_
              refine G_iconst (v := 4) C 73 dX11_put_72 rfl rfl ?_
              refine G_iload_n (i := 1) C 74 dX11_put_73 rfl rfl rfl ?_
              refine G_imul C 75 dX11_put_74 rfl (fun x74 ex74 => ?_)
              have Nx74 : x74 = nI (4 * up) := g_mulN ex74 rfl eup
              refine G_iload_n (i := 2) C 76 dX11_put_75 rfl rfl rfl ?_
              refine G_iadd C 77 dX11_put_76 rfl (fun x76 ex76 => ?_)
              have Nx76 : x76 = nI ((4 * up) + 1) := g_addN ex76 Nx74 eq1
              refine G_iload_n (i := 3) C 78 dX11_put_77 rfl rfl rfl ?_
              refine G_iast (n := 24) C 79 (by decide) (fun σ => eMk (by decide) _ _ σ) (((4 * up) + 1)) Nx76 (by omega) (by decide) (Nat.le_refl _) dX11_put_78 rfl (fun s78 es78 => ?_)
              have fn_1 : Qn s s78 := Qn.tr fn ((Qm.up es78 (by unfold mR; omega)).n)
              refine G_iload C 81 dX11_put_79 rfl rfl ?_
              have em : s_pmost q = 1023 := by unfold s_pmost; rw [if_neg c12, if_neg c22]
              have cq : q.toNatClampNeg = 1 := by rw [eq1]; rfl
              have hv : ∃ m, m < 1024 ∧ v = nI m := by obtain ⟨z, hz, ez⟩ := x_inR (b := 1023) k50 rfl (by decide); exact ⟨z, by omega, ez⟩
              exact G_iret C dX11_put_81 (⟨by unfold s_puP s_puOk; rw [hxn, if_neg k5, if_neg k40, em, if_neg k50, cq, cup]; exact RM_up hR (mI_up3 hI es78 hv) fn_1 rfl rfl (eI_of hbI.2.2.2.2.2.1 rfl), by unfold s_puR s_puOk; rw [hxn, if_neg k5, if_neg k40, em, if_neg k50, cq, cup]; exact Sx65⟩)
            ·
              have eq1 : q = 2 := by rw [euq, e1]; rfl
              refine G_aload_n (i := 0) C 57 dX11_put_56 rfl rfl rfl ?_
              refine X11_16g C 60 dX11_put_57 rfl ?_
              refine G_iconst (v := 4) C 61 dX11_put_60 rfl rfl ?_
              refine G_iload_n (i := 1) C 62 dX11_put_61 rfl rfl rfl ?_
              refine G_imul C 63 dX11_put_62 rfl (fun x62 ex62 => ?_)
              have Nx62 : x62 = nI (4 * up) := g_mulN ex62 rfl eup
              refine G_iload_n (i := 2) C 64 dX11_put_63 rfl rfl rfl ?_
              refine G_iadd C 65 dX11_put_64 rfl (fun x64 ex64 => ?_)
              have Nx64 : x64 = nI ((4 * up) + 2) := g_addN ex64 Nx62 eq1
              refine G_iald (n := 24) C 66 (by decide) (eMk (by decide) _ _ _) (((4 * up) + 2)) Nx64 (by omega) (by decide) dX11_put_65 rfl (fun x65 ex65 => ?_)
              have Sx65 : x65 = P 4 up := ex65.trans (congrFun (congrFun i.1 4) up)
              obtain ⟨mx65, hmx65, emx65⟩ := (mI_p i (p := up) (by omega)).2.2
              refine G_istore (L' := [some (.ref (e_ad E 0)), some (.int p), some (.int q), some (.int v), some (.int 1023), some (.int x65)]) C 68 dX11_put_66 rfl (Nat.le_of_ble_eq_true rfl) rfl rfl ?_
              refine G_aload_n (i := 0) C 69 dX11_put_68 rfl rfl rfl ?_
              refine X11_16g C 72 dX11_put_69 rfl ?_
              refine G_iconst (v := 4) C 73 dX11_put_72 rfl rfl ?_
              refine G_iload_n (i := 1) C 74 dX11_put_73 rfl rfl rfl ?_
              refine G_imul C 75 dX11_put_74 rfl (fun x74 ex74 => ?_)
              have Nx74 : x74 = nI (4 * up) := g_mulN ex74 rfl eup
              refine G_iload_n (i := 2) C 76 dX11_put_75 rfl rfl rfl ?_
              refine G_iadd C 77 dX11_put_76 rfl (fun x76 ex76 => ?_)
              have Nx76 : x76 = nI ((4 * up) + 2) := g_addN ex76 Nx74 eq1
              refine G_iload_n (i := 3) C 78 dX11_put_77 rfl rfl rfl ?_
              refine G_iast (n := 24) C 79 (by decide) (fun σ => eMk (by decide) _ _ σ) (((4 * up) + 2)) Nx76 (by omega) (by decide) (Nat.le_refl _) dX11_put_78 rfl (fun s78 es78 => ?_)
              have fn_1 : Qn s s78 := Qn.tr fn ((Qm.up es78 (by unfold mR; omega)).n)
              refine G_iload C 81 dX11_put_79 rfl rfl ?_
              have em : s_pmost q = 1023 := by unfold s_pmost; rw [if_neg c12, if_neg c22]
              have cq : q.toNatClampNeg = 2 := by rw [eq1]; rfl
              have hv : ∃ m, m < 1024 ∧ v = nI m := by obtain ⟨z, hz, ez⟩ := x_inR (b := 1023) k50 rfl (by decide); exact ⟨z, by omega, ez⟩
              exact G_iret C dX11_put_81 (⟨by unfold s_puP s_puOk; rw [hxn, if_neg k5, if_neg k40, em, if_neg k50, cq, cup]; exact RM_up hR (mI_up4 hI es78 hv) fn_1 rfl rfl (eI_of hbI.2.2.2.2.2.1 rfl), by unfold s_puR s_puOk; rw [hxn, if_neg k5, if_neg k40, em, if_neg k50, cq, cup]; exact Sx65⟩)
          ·
            have k50 := h47.symm.trans c50
            refine G_bipush (v := (-7)) C 55 dX11_put_53 rfl rfl ?_
            have em : s_pmost q = 1023 := by unfold s_pmost; rw [if_neg c12, if_neg c22]
            exact G_iret C dX11_put_55 (⟨by unfold s_puP s_puOk; rw [hxn, if_neg k5, if_neg k40, em, if_pos k50]; exact ⟨nT, n, l, hR⟩, by unfold s_puR s_puOk; rw [hxn, if_neg k5, if_neg k40, em, if_pos k50]⟩)
      ·
        refine G_iconst (v := 1) C 26 dX11_put_25 rfl rfl ?_
        refine G_goto C 32 dX11_put_26 rfl ?_
        refine G_istore (L' := [some (.ref (e_ad E 0)), some (.int p), some (.int q), some (.int v), some (.int 1), none]) C 34 dX11_put_32 rfl (Nat.le_of_ble_eq_true rfl) rfl rfl ?_
        refine G_iload_n (i := 2) C 35 dX11_put_34 rfl rfl rfl ?_
        refine G_iconst (v := 0) C 36 dX11_put_35 rfl rfl ?_
        refine G_iconst (v := 3) C 37 dX11_put_36 rfl rfl ?_
        refine G_calli 40 (G_runS C Kc_X11_in KS_X11_78 (by omega) (c_X11_in 0 q 0 3 s) rfl rfl (Nat.le_of_ble_eq_true rfl) rfl dX11_put_37) rfl (fun x37 s37 h37 => ?_)
        obtain ⟨es37, h37⟩ := h37
        have es37 := es37.symm
        subst es37
        refine G_if_eq C 53 43 dX11_put_40 rfl rfl (fun c40 => ?_) (fun c40 => ?_)
        ·
          have k40 := h37.symm.trans c40
          refine G_bipush (v := (-7)) C 55 dX11_put_53 rfl rfl ?_
          exact G_iret C dX11_put_55 (⟨by unfold s_puP s_puOk; rw [hxn, if_neg k5, if_pos k40, if_pos rfl]; exact ⟨nT, n, l, hR⟩, by unfold s_puR s_puOk; rw [hxn, if_neg k5, if_pos k40, if_pos rfl]⟩)
        ·
          have k40 := g_neT h37 c40
          refine G_iload_n (i := 3) C 44 dX11_put_43 rfl rfl rfl ?_
          refine G_iconst (v := 0) C 45 dX11_put_44 rfl rfl ?_
          refine G_iload C 47 dX11_put_45 rfl rfl ?_
          refine G_calli 50 (G_runS C Kc_X11_in KS_X11_78 (by omega) (c_X11_in 0 v 0 1 s) rfl rfl (Nat.le_of_ble_eq_true rfl) rfl dX11_put_47) rfl (fun x47 s47 h47 => ?_)
          obtain ⟨es47, h47⟩ := h47
          have es47 := es47.symm
          subst es47
          refine G_if_ne C 56 53 dX11_put_50 rfl rfl (fun c50 => ?_) (fun c50 => ?_)
          ·
            have k50 := g_neT h47 c50
            refine G_aload_n (i := 0) C 57 dX11_put_56 rfl rfl rfl ?_
            refine X11_16g C 60 dX11_put_57 rfl ?_
            refine G_iconst (v := 4) C 61 dX11_put_60 rfl rfl ?_
            refine G_iload_n (i := 1) C 62 dX11_put_61 rfl rfl rfl ?_
            refine G_imul C 63 dX11_put_62 rfl (fun x62 ex62 => ?_)
            have Nx62 : x62 = nI (4 * up) := g_mulN ex62 rfl eup
            refine G_iload_n (i := 2) C 64 dX11_put_63 rfl rfl rfl ?_
            refine G_iadd C 65 dX11_put_64 rfl (fun x64 ex64 => ?_)
            have Nx64 : x64 = nI ((4 * up) + 3) := g_addN ex64 Nx62 c22
            refine G_iald (n := 24) C 66 (by decide) (eMk (by decide) _ _ _) (((4 * up) + 3)) Nx64 (by omega) (by decide) dX11_put_65 rfl (fun x65 ex65 => ?_)
            have Sx65 : x65 = P 5 up := ex65.trans (congrFun (congrFun i.1 5) up)
            refine G_istore (L' := [some (.ref (e_ad E 0)), some (.int p), some (.int q), some (.int v), some (.int 1), some (.int x65)]) C 68 dX11_put_66 rfl (Nat.le_of_ble_eq_true rfl) rfl rfl ?_
            refine G_aload_n (i := 0) C 69 dX11_put_68 rfl rfl rfl ?_
            refine X11_16g C 72 dX11_put_69 rfl ?_
            refine G_iconst (v := 4) C 73 dX11_put_72 rfl rfl ?_
            refine G_iload_n (i := 1) C 74 dX11_put_73 rfl rfl rfl ?_
            refine G_imul C 75 dX11_put_74 rfl (fun x74 ex74 => ?_)
            have Nx74 : x74 = nI (4 * up) := g_mulN ex74 rfl eup
            refine G_iload_n (i := 2) C 76 dX11_put_75 rfl rfl rfl ?_
            refine G_iadd C 77 dX11_put_76 rfl (fun x76 ex76 => ?_)
            have Nx76 : x76 = nI ((4 * up) + 3) := g_addN ex76 Nx74 c22
            refine G_iload_n (i := 3) C 78 dX11_put_77 rfl rfl rfl ?_
            refine G_iast (n := 24) C 79 (by decide) (fun σ => eMk (by decide) _ _ σ) (((4 * up) + 3)) Nx76 (by omega) (by decide) (Nat.le_refl _) dX11_put_78 rfl (fun s78 es78 => ?_)
            have fn_1 : Qn s s78 := Qn.tr fn ((Qm.up es78 (by unfold mR; omega)).n)
            refine G_iload C 81 dX11_put_79 rfl rfl ?_
            have em : s_pmost q = 1 := by unfold s_pmost; rw [if_neg c12, if_pos c22]
            have cq : q.toNatClampNeg = 3 := by rw [c22]; rfl
            exact G_iret C dX11_put_81 (⟨by unfold s_puP s_puOk; rw [hxn, if_neg k5, if_neg k40, em, if_neg k50, cq, cup]; exact RM_up hR (mI_up5 hI es78) fn_1 rfl rfl (eI_of hbI.2.2.2.2.2.1 rfl), by unfold s_puR s_puOk; rw [hxn, if_neg k5, if_neg k40, em, if_neg k50, cq, cup]; exact Sx65⟩)
          ·
            have k50 := h47.symm.trans c50
            refine G_bipush (v := (-7)) C 55 dX11_put_53 rfl rfl ?_
            have em : s_pmost q = 1 := by unfold s_pmost; rw [if_neg c12, if_pos c22]
            exact G_iret C dX11_put_55 (⟨by unfold s_puP s_puOk; rw [hxn, if_neg k5, if_neg k40, em, if_pos k50]; exact ⟨nT, n, l, hR⟩, by unfold s_puR s_puOk; rw [hxn, if_neg k5, if_neg k40, em, if_pos k50]⟩)
    ·
      refine G_bipush (v := 8) C 17 dX11_put_15 rfl rfl ?_
      refine G_goto C 32 dX11_put_17 rfl ?_
      refine G_istore (L' := [some (.ref (e_ad E 0)), some (.int p), some (.int q), some (.int v), some (.int 8), none]) C 34 dX11_put_32 rfl (Nat.le_of_ble_eq_true rfl) rfl rfl ?_
      refine G_iload_n (i := 2) C 35 dX11_put_34 rfl rfl rfl ?_
      refine G_iconst (v := 0) C 36 dX11_put_35 rfl rfl ?_
      refine G_iconst (v := 3) C 37 dX11_put_36 rfl rfl ?_
      refine G_calli 40 (G_runS C Kc_X11_in KS_X11_78 (by omega) (c_X11_in 0 q 0 3 s) rfl rfl (Nat.le_of_ble_eq_true rfl) rfl dX11_put_37) rfl (fun x37 s37 h37 => ?_)
      obtain ⟨es37, h37⟩ := h37
      have es37 := es37.symm
      subst es37
      refine G_if_eq C 53 43 dX11_put_40 rfl rfl (fun c40 => ?_) (fun c40 => ?_)
      ·
        have k40 := h37.symm.trans c40
        refine G_bipush (v := (-7)) C 55 dX11_put_53 rfl rfl ?_
        exact G_iret C dX11_put_55 (⟨by unfold s_puP s_puOk; rw [hxn, if_neg k5, if_pos k40, if_pos rfl]; exact ⟨nT, n, l, hR⟩, by unfold s_puR s_puOk; rw [hxn, if_neg k5, if_pos k40, if_pos rfl]⟩)
      ·
        have k40 := g_neT h37 c40
        refine G_iload_n (i := 3) C 44 dX11_put_43 rfl rfl rfl ?_
        refine G_iconst (v := 0) C 45 dX11_put_44 rfl rfl ?_
        refine G_iload C 47 dX11_put_45 rfl rfl ?_
        refine G_calli 50 (G_runS C Kc_X11_in KS_X11_78 (by omega) (c_X11_in 0 v 0 8 s) rfl rfl (Nat.le_of_ble_eq_true rfl) rfl dX11_put_47) rfl (fun x47 s47 h47 => ?_)
        obtain ⟨es47, h47⟩ := h47
        have es47 := es47.symm
        subst es47
        refine G_if_ne C 56 53 dX11_put_50 rfl rfl (fun c50 => ?_) (fun c50 => ?_)
        ·
          have k50 := g_neT h47 c50
          refine G_aload_n (i := 0) C 57 dX11_put_56 rfl rfl rfl ?_
          refine X11_16g C 60 dX11_put_57 rfl ?_
          refine G_iconst (v := 4) C 61 dX11_put_60 rfl rfl ?_
          refine G_iload_n (i := 1) C 62 dX11_put_61 rfl rfl rfl ?_
          refine G_imul C 63 dX11_put_62 rfl (fun x62 ex62 => ?_)
          have Nx62 : x62 = nI (4 * up) := g_mulN ex62 rfl eup
          refine G_iload_n (i := 2) C 64 dX11_put_63 rfl rfl rfl ?_
          refine G_iadd C 65 dX11_put_64 rfl (fun x64 ex64 => ?_)
          have Nx64 : x64 = nI ((4 * up) + 0) := g_addN ex64 Nx62 c12
          refine G_iald (n := 24) C 66 (by decide) (eMk (by decide) _ _ _) (((4 * up) + 0)) Nx64 (by omega) (by decide) dX11_put_65 rfl (fun x65 ex65 => ?_)
          have Sx65 : x65 = P 2 up := ex65.trans (congrFun (congrFun i.1 2) up)
          refine G_istore (L' := [some (.ref (e_ad E 0)), some (.int p), some (.int q), some (.int v), some (.int 8), some (.int x65)]) C 68 dX11_put_66 rfl (Nat.le_of_ble_eq_true rfl) rfl rfl ?_
          refine G_aload_n (i := 0) C 69 dX11_put_68 rfl rfl rfl ?_
          refine X11_16g C 72 dX11_put_69 rfl ?_
          refine G_iconst (v := 4) C 73 dX11_put_72 rfl rfl ?_
          refine G_iload_n (i := 1) C 74 dX11_put_73 rfl rfl rfl ?_
          refine G_imul C 75 dX11_put_74 rfl (fun x74 ex74 => ?_)
          have Nx74 : x74 = nI (4 * up) := g_mulN ex74 rfl eup
          refine G_iload_n (i := 2) C 76 dX11_put_75 rfl rfl rfl ?_
          refine G_iadd C 77 dX11_put_76 rfl (fun x76 ex76 => ?_)
          have Nx76 : x76 = nI ((4 * up) + 0) := g_addN ex76 Nx74 c12
          refine G_iload_n (i := 3) C 78 dX11_put_77 rfl rfl rfl ?_
          refine G_iast (n := 24) C 79 (by decide) (fun σ => eMk (by decide) _ _ σ) (((4 * up) + 0)) Nx76 (by omega) (by decide) (Nat.le_refl _) dX11_put_78 rfl (fun s78 es78 => ?_)
          have fn_1 : Qn s s78 := Qn.tr fn ((Qm.up es78 (by unfold mR; omega)).n)
          refine G_iload C 81 dX11_put_79 rfl rfl ?_
          have em : s_pmost q = 8 := by unfold s_pmost; rw [if_pos c12]
          have cq : q.toNatClampNeg = 0 := by rw [c12]; rfl
          exact G_iret C dX11_put_81 (⟨by unfold s_puP s_puOk; rw [hxn, if_neg k5, if_neg k40, em, if_neg k50, cq, cup]; exact RM_up hR (mI_up2 hI es78) fn_1 rfl rfl (eI_of hbI.2.2.2.2.2.1 rfl), by unfold s_puR s_puOk; rw [hxn, if_neg k5, if_neg k40, em, if_neg k50, cq, cup]; exact Sx65⟩)
        ·
          have k50 := h47.symm.trans c50
          refine G_bipush (v := (-7)) C 55 dX11_put_53 rfl rfl ?_
          have em : s_pmost q = 8 := by unfold s_pmost; rw [if_pos c12]
          exact G_iret C dX11_put_55 (⟨by unfold s_puP s_puOk; rw [hxn, if_neg k5, if_neg k40, em, if_pos k50]; exact ⟨nT, n, l, hR⟩, by unfold s_puR s_puOk; rw [hxn, if_neg k5, if_neg k40, em, if_pos k50]⟩)
  ·
    have k5 := h2.symm.trans c5
    refine G_bipush (v := (-5)) C 10 dX11_put_8 rfl rfl ?_
    exact G_iret C dX11_put_10 (⟨by unfold s_puP; rw [hxn, if_pos k5]; exact ⟨nT, n, l, hR⟩, by unfold s_puR; rw [hxn, if_pos k5]⟩)
theorem dX11_told_0 : decode cX11_told 0 = .ok (.aload_n 0, 1) := by decide +kernel
theorem dX11_told_1 : decode cX11_told 1 = .ok (.iload_n 1, 1) := by decide +kernel
theorem dX11_told_2 : decode cX11_told 2 = .ok (.invokevirtual 164, 3) := by decide +kernel
theorem dX11_told_5 : decode cX11_told 5 = .ok (.ifCond .ne 6, 3) := by decide +kernel
theorem dX11_told_8 : decode cX11_told 8 = .ok (.bipush (-5), 2) := by decide +kernel
theorem dX11_told_10 : decode cX11_told 10 = .ok (.ireturn, 1) := by decide +kernel
theorem dX11_told_11 : decode cX11_told 11 = .ok (.iload_n 2, 1) := by decide +kernel
theorem dX11_told_12 : decode cX11_told 12 = .ok (.tableswitch 110 0 8 #[52, 52, 52, 52, 63, 70, 77, 86, 100], 52) := by decide +kernel
theorem dX11_told_64 : decode cX11_told 64 = .ok (.aload_n 0, 1) := by decide +kernel
theorem dX11_told_65 : decode cX11_told 65 = .ok (.getfield 16, 3) := by decide +kernel
theorem dX11_told_68 : decode cX11_told 68 = .ok (.iconst 4, 1) := by decide +kernel
theorem dX11_told_69 : decode cX11_told 69 = .ok (.iload_n 1, 1) := by decide +kernel
theorem dX11_told_70 : decode cX11_told 70 = .ok (.imul, 1) := by decide +kernel
theorem dX11_told_71 : decode cX11_told 71 = .ok (.iload_n 2, 1) := by decide +kernel
theorem dX11_told_72 : decode cX11_told 72 = .ok (.iadd, 1) := by decide +kernel
theorem dX11_told_73 : decode cX11_told 73 = .ok (.iaload, 1) := by decide +kernel
theorem dX11_told_74 : decode cX11_told 74 = .ok (.ireturn, 1) := by decide +kernel
theorem dX11_told_75 : decode cX11_told 75 = .ok (.aload_n 0, 1) := by decide +kernel
theorem dX11_told_76 : decode cX11_told 76 = .ok (.getfield 7, 3) := by decide +kernel
theorem dX11_told_79 : decode cX11_told 79 = .ok (.iload_n 1, 1) := by decide +kernel
theorem dX11_told_80 : decode cX11_told 80 = .ok (.iaload, 1) := by decide +kernel
theorem dX11_told_81 : decode cX11_told 81 = .ok (.ireturn, 1) := by decide +kernel
theorem dX11_told_82 : decode cX11_told 82 = .ok (.aload_n 0, 1) := by decide +kernel
theorem dX11_told_83 : decode cX11_told 83 = .ok (.getfield 13, 3) := by decide +kernel
theorem dX11_told_86 : decode cX11_told 86 = .ok (.iload_n 1, 1) := by decide +kernel
theorem dX11_told_87 : decode cX11_told 87 = .ok (.iaload, 1) := by decide +kernel
theorem dX11_told_88 : decode cX11_told 88 = .ok (.ireturn, 1) := by decide +kernel
theorem dX11_told_89 : decode cX11_told 89 = .ok (.aload_n 0, 1) := by decide +kernel
theorem dX11_told_90 : decode cX11_told 90 = .ok (.iload_n 1, 1) := by decide +kernel
theorem dX11_told_91 : decode cX11_told 91 = .ok (.sipush 1023, 3) := by decide +kernel
theorem dX11_told_94 : decode cX11_told 94 = .ok (.invokevirtual 185, 3) := by decide +kernel
theorem dX11_told_97 : decode cX11_told 97 = .ok (.ireturn, 1) := by decide +kernel
theorem dX11_told_98 : decode cX11_told 98 = .ok (.aload_n 0, 1) := by decide +kernel
theorem dX11_told_99 : decode cX11_told 99 = .ok (.iload_n 1, 1) := by decide +kernel
theorem dX11_told_100 : decode cX11_told 100 = .ok (.invokevirtual 188, 3) := by decide +kernel
theorem dX11_told_103 : decode cX11_told 103 = .ok (.ifCond .eq 7, 3) := by decide +kernel
theorem dX11_told_106 : decode cX11_told 106 = .ok (.iconst 1, 1) := by decide +kernel
theorem dX11_told_107 : decode cX11_told 107 = .ok (.goto 4, 3) := by decide +kernel
theorem dX11_told_110 : decode cX11_told 110 = .ok (.iconst 0, 1) := by decide +kernel
theorem dX11_told_111 : decode cX11_told 111 = .ok (.ireturn, 1) := by decide +kernel
theorem dX11_told_112 : decode cX11_told 112 = .ok (.sipush 1000, 3) := by decide +kernel
theorem dX11_told_115 : decode cX11_told 115 = .ok (.aload_n 0, 1) := by decide +kernel
theorem dX11_told_116 : decode cX11_told 116 = .ok (.iload_n 1, 1) := by decide +kernel
theorem dX11_told_117 : decode cX11_told 117 = .ok (.invokevirtual 191, 3) := by decide +kernel
theorem dX11_told_120 : decode cX11_told 120 = .ok (.iadd, 1) := by decide +kernel
theorem dX11_told_121 : decode cX11_told 121 = .ok (.ireturn, 1) := by decide +kernel
theorem dX11_told_122 : decode cX11_told 122 = .ok (.bipush (-7), 2) := by decide +kernel
theorem dX11_told_124 : decode cX11_told 124 = .ok (.ireturn, 1) := by decide +kernel
set_option maxHeartbeats 4000000 in
set_option maxRecDepth 100000 in
theorem c_X11_told (d : Nat) (TX : gTX) (P B s : gS) (hR0 : RM TX P B s) (p q : Int32) : gMt SM yX11_told cX11_told 3 (some .int) (d + 8) (fun ad => [.ref (ad 0), .int p, .int q]) s (gQi SM (fun r s' => RM TX P B s' ∧ r = s_told TX P p q)) := by
  obtain ⟨nT, n, l, hR⟩ := hR0
  have hI := hR.1
  have hn6 : n ≤ 6 := hI.2.1.2.1
  have hl6 : l < 6 := mI_l6 hI
  have hxn : x_n P = n := x_nOf hI.2.1.1 hn6
  have hbI := hR.2.2
  have hnT6 : nT ≤ 6 := hI.2.1.2.2.2.2.1
  obtain ⟨tn0, htn0, etn0⟩ := hbI.2.1
  refine gMt_of SM_ok (by decide +kernel) (fun ad => [some (.ref (ad 0)), some (.int p), some (.int q)]) (fun _ => rfl) (fun _ => rfl) (fun _ => Nat.le_of_ble_eq_true rfl) (fun E C0 => ?_)
  have C : gCx SM E RX11 cX11_told 3 (some .int) (d + 8) := C0
  have fn : Qn s s := Qn.rf
  have i : mI TX nT n l P s := hI
  refine G_aload_n (i := 0) C 1 dX11_told_0 rfl rfl rfl ?_
  refine G_iload_n (i := 1) C 2 dX11_told_1 rfl rfl rfl ?_
  refine G_calli 5 (G_runV C Kc_X11_isOne KV_X11_164 (by omega) (by decide) (eM _ _ _) rfl (c_X11_isOne 0 n hn6 s (mI_n i) p) rfl rfl rfl (Nat.le_of_ble_eq_true rfl) rfl dX11_told_2) rfl (fun x2 s2 h2 => ?_)
  obtain ⟨es2, h2⟩ := h2
  have es2 := es2.symm
  subst es2
  refine G_if_ne C 11 8 dX11_told_5 rfl rfl (fun c5 => ?_) (fun c5 => ?_)
  ·
    have k5 := g_neT h2 c5
    obtain ⟨up, hup, eup⟩ := x_oneT hn6 k5
    have cup : p.toNatClampNeg = up := by rw [eup, nI_clamp (by omega)]
    refine G_iload_n (i := 2) C 12 dX11_told_11 rfl rfl rfl ?_
    by_cases c12 : q = 0
    ·
      refine G_tsIn C 64 (0) c12 dX11_told_12 (by decide) rfl rfl ?_
      refine G_aload_n (i := 0) C 65 dX11_told_64 rfl rfl rfl ?_
      refine X11_16g C 68 dX11_told_65 rfl ?_
      refine G_iconst (v := 4) C 69 dX11_told_68 rfl rfl ?_
      refine G_iload_n (i := 1) C 70 dX11_told_69 rfl rfl rfl ?_
      refine G_imul C 71 dX11_told_70 rfl (fun x70 ex70 => ?_)
      have Nx70 : x70 = nI (4 * up) := g_mulN ex70 rfl eup
      refine G_iload_n (i := 2) C 72 dX11_told_71 rfl rfl rfl ?_
      refine G_iadd C 73 dX11_told_72 rfl (fun x72 ex72 => ?_)
      have Nx72 : x72 = nI ((4 * up) + 0) := g_addN ex72 Nx70 c12
      refine G_iald (n := 24) C 74 (by decide) (eMk (by decide) _ _ _) (((4 * up) + 0)) Nx72 (by omega) (by decide) dX11_told_73 rfl (fun x73 ex73 => ?_)
      have Sx73 : x73 = P 2 up := ex73.trans (congrFun (congrFun i.1 2) up)
      exact G_iret C dX11_told_74 (⟨⟨nT, n, l, hR⟩, by unfold s_told; rw [hxn, if_neg k5, if_pos c12, cup]; exact Sx73⟩)
    by_cases c12_1 : q = 1
    ·
      refine G_tsIn C 64 (1) c12_1 dX11_told_12 (by decide) rfl rfl ?_
      refine G_aload_n (i := 0) C 65 dX11_told_64 rfl rfl rfl ?_
      refine X11_16g C 68 dX11_told_65 rfl ?_
      refine G_iconst (v := 4) C 69 dX11_told_68 rfl rfl ?_
      refine G_iload_n (i := 1) C 70 dX11_told_69 rfl rfl rfl ?_
      refine G_imul C 71 dX11_told_70 rfl (fun x70 ex70 => ?_)
      have Nx70 : x70 = nI (4 * up) := g_mulN ex70 rfl eup
      refine G_iload_n (i := 2) C 72 dX11_told_71 rfl rfl rfl ?_
      refine G_iadd C 73 dX11_told_72 rfl (fun x72 ex72 => ?_)
      have Nx72 : x72 = nI ((4 * up) + 1) := g_addN ex72 Nx70 c12_1
      refine G_iald (n := 24) C 74 (by decide) (eMk (by decide) _ _ _) (((4 * up) + 1)) Nx72 (by omega) (by decide) dX11_told_73 rfl (fun x73 ex73 => ?_)
      have Sx73 : x73 = P 3 up := ex73.trans (congrFun (congrFun i.1 3) up)
      obtain ⟨mx73, hmx73, emx73⟩ := (mI_p i (p := up) (by omega)).2.1
      exact G_iret C dX11_told_74 (⟨⟨nT, n, l, hR⟩, by unfold s_told; rw [hxn, if_neg k5, if_neg c12, if_pos c12_1, cup]; exact Sx73⟩)
    by_cases c12_2 : q = 2
    ·
      refine G_tsIn C 64 (2) c12_2 dX11_told_12 (by decide) rfl rfl ?_
      refine G_aload_n (i := 0) C 65 dX11_told_64 rfl rfl rfl ?_
      refine X11_16g C 68 dX11_told_65 rfl ?_
      refine G_iconst (v := 4) C 69 dX11_told_68 rfl rfl ?_
      refine G_iload_n (i := 1) C 70 dX11_told_69 rfl rfl rfl ?_
      refine G_imul C 71 dX11_told_70 rfl (fun x70 ex70 => ?_)
      have Nx70 : x70 = nI (4 * up) := g_mulN ex70 rfl eup
      refine G_iload_n (i := 2) C 72 dX11_told_71 rfl rfl rfl ?_
      refine G_iadd C 73 dX11_told_72 rfl (fun x72 ex72 => ?_)
      have Nx72 : x72 = nI ((4 * up) + 2) := g_addN ex72 Nx70 c12_2
      refine G_iald (n := 24) C 74 (by decide) (eMk (by decide) _ _ _) (((4 * up) + 2)) Nx72 (by omega) (by decide) dX11_told_73 rfl (fun x73 ex73 => ?_)
      have Sx73 : x73 = P 4 up := ex73.trans (congrFun (congrFun i.1 4) up)
      obtain ⟨mx73, hmx73, emx73⟩ := (mI_p i (p := up) (by omega)).2.2
      exact G_iret C dX11_told_74 (⟨⟨nT, n, l, hR⟩, by unfold s_told; rw [hxn, if_neg k5, if_neg c12, if_neg c12_1, if_pos c12_2, cup]; exact Sx73⟩)
    by_cases c12_3 : q = 3
    ·
      refine G_tsIn C 64 (3) c12_3 dX11_told_12 (by decide) rfl rfl ?_
      refine G_aload_n (i := 0) C 65 dX11_told_64 rfl rfl rfl ?_
      refine X11_16g C 68 dX11_told_65 rfl ?_
      refine G_iconst (v := 4) C 69 dX11_told_68 rfl rfl ?_
      refine G_iload_n (i := 1) C 70 dX11_told_69 rfl rfl rfl ?_
      refine G_imul C 71 dX11_told_70 rfl (fun x70 ex70 => ?_)
      have Nx70 : x70 = nI (4 * up) := g_mulN ex70 rfl eup
      refine G_iload_n (i := 2) C 72 dX11_told_71 rfl rfl rfl ?_
      refine G_iadd C 73 dX11_told_72 rfl (fun x72 ex72 => ?_)
      have Nx72 : x72 = nI ((4 * up) + 3) := g_addN ex72 Nx70 c12_3
      refine G_iald (n := 24) C 74 (by decide) (eMk (by decide) _ _ _) (((4 * up) + 3)) Nx72 (by omega) (by decide) dX11_told_73 rfl (fun x73 ex73 => ?_)
      have Sx73 : x73 = P 5 up := ex73.trans (congrFun (congrFun i.1 5) up)
      exact G_iret C dX11_told_74 (⟨⟨nT, n, l, hR⟩, by unfold s_told; rw [hxn, if_neg k5, if_neg c12, if_neg c12_1, if_neg c12_2, if_pos c12_3, cup]; exact Sx73⟩)
    by_cases c12_4 : q = 4
    ·
      refine G_tsIn C 75 (4) c12_4 dX11_told_12 (by decide) rfl rfl ?_
      refine G_aload_n (i := 0) C 76 dX11_told_75 rfl rfl rfl ?_
      refine X11_7g C 79 dX11_told_76 rfl ?_
      refine G_iload_n (i := 1) C 80 dX11_told_79 rfl rfl rfl ?_
      refine G_iald (n := 6) C 81 (by decide) (eMk (by decide) _ _ _) (up) eup (by omega) (by decide) dX11_told_80 rfl (fun x80 ex80 => ?_)
      have Sx80 : x80 = P 6 up := ex80.trans (mI_6 i (by omega))
      obtain ⟨kdx80, hkdx80, ekdx80⟩ := (mI_p i (p := up) (by omega)).1
      exact G_iret C dX11_told_81 (⟨⟨nT, n, l, hR⟩, by unfold s_told; rw [hxn, if_neg k5, if_neg c12, if_neg c12_1, if_neg c12_2, if_neg c12_3, if_pos c12_4, cup]; exact Sx80⟩)
    by_cases c12_5 : q = 5
    ·
      refine G_tsIn C 82 (5) c12_5 dX11_told_12 (by decide) rfl rfl ?_
      refine G_aload_n (i := 0) C 83 dX11_told_82 rfl rfl rfl ?_
      refine X11_13g C 86 dX11_told_83 rfl ?_
      refine G_iload_n (i := 1) C 87 dX11_told_86 rfl rfl rfl ?_
      refine G_iald (n := 6) C 88 (by decide) (eMk (by decide) _ _ _) (up) eup (by omega) (by decide) dX11_told_87 rfl (fun x87 ex87 => ?_)
      have Sx87 : x87 = P 7 up := ex87.trans (mI_7 i (by omega))
      exact G_iret C dX11_told_88 (⟨⟨nT, n, l, hR⟩, by unfold s_told; rw [hxn, if_neg k5, if_neg c12, if_neg c12_1, if_neg c12_2, if_neg c12_3, if_neg c12_4, if_pos c12_5, cup]; exact Sx87⟩)
    by_cases c12_6 : q = 6
    ·
      refine G_tsIn C 89 (6) c12_6 dX11_told_12 (by decide) rfl rfl ?_
      refine G_aload_n (i := 0) C 90 dX11_told_89 rfl rfl rfl ?_
      refine G_iload_n (i := 1) C 91 dX11_told_90 rfl rfl rfl ?_
      refine G_sipush (v := 1023) C 94 dX11_told_91 rfl rfl ?_
      refine G_calli 97 (G_runV C Kc_X11_wishSet KV_X11_185 (by omega) (by decide) (eM _ _ _) rfl (c_X11_wishSet 0 TX nT n l P s i p up eup (by omega) 1023) rfl rfl rfl (Nat.le_of_ble_eq_true rfl) rfl dX11_told_94) rfl (fun x94 s94 h94 => ?_)
      have fn_1 : Qn s s94 := Qn.tr fn (h94.1.MR)
      have i_1 : mI TX nT n l P s94 := mI_fr i (h94.1)
      exact G_iret C dX11_told_97 (⟨RM_i hR i_1 fn_1, h94.2.trans (by unfold s_told; rw [hxn, if_neg k5, if_neg c12, if_neg c12_1, if_neg c12_2, if_neg c12_3, if_neg c12_4, if_neg c12_5, if_pos c12_6, cup])⟩)
    by_cases c12_7 : q = 7
    ·
      refine G_tsIn C 98 (7) c12_7 dX11_told_12 (by decide) rfl rfl ?_
      refine G_aload_n (i := 0) C 99 dX11_told_98 rfl rfl rfl ?_
      refine G_iload_n (i := 1) C 100 dX11_told_99 rfl rfl rfl ?_
      refine G_calli 103 (G_runV C Kc_X11_listens KV_X11_188 (by omega) (by decide) (eM _ _ _) rfl (c_X11_listens 0 TX nT n l P s i p up eup (by omega)) rfl rfl rfl (Nat.le_of_ble_eq_true rfl) rfl dX11_told_100) rfl (fun x100 s100 h100 => ?_)
      obtain ⟨es100, h100⟩ := h100
      have es100 := es100.symm
      subst es100
      refine G_if_eq C 110 106 dX11_told_103 rfl rfl (fun c103 => ?_) (fun c103 => ?_)
      ·
        have k103 := h100.symm.trans c103
        refine G_iconst (v := 0) C 111 dX11_told_110 rfl rfl ?_
        exact G_iret C dX11_told_111 (⟨⟨nT, n, l, hR⟩, by unfold s_told; rw [hxn, if_neg k5, if_neg c12, if_neg c12_1, if_neg c12_2, if_neg c12_3, if_neg c12_4, if_neg c12_5, if_neg c12_6, if_pos c12_7, cup]; exact k103.symm⟩)
      ·
        have k103 := g_neT h100 c103
        refine G_iconst (v := 1) C 107 dX11_told_106 rfl rfl ?_
        refine G_goto C 111 dX11_told_107 rfl ?_
        exact G_iret C dX11_told_111 (⟨⟨nT, n, l, hR⟩, by unfold s_told; rw [hxn, if_neg k5, if_neg c12, if_neg c12_1, if_neg c12_2, if_neg c12_3, if_neg c12_4, if_neg c12_5, if_neg c12_6, if_pos c12_7, cup]; exact ((x_lis01 P up).resolve_left k103).symm⟩)
    by_cases c12_8 : q = 8
    ·
      refine G_tsIn C 112 (8) c12_8 dX11_told_12 (by decide) rfl rfl ?_
      refine G_sipush (v := 1000) C 115 dX11_told_112 rfl rfl ?_
      refine G_aload_n (i := 0) C 116 dX11_told_115 rfl rfl rfl ?_
      refine G_iload_n (i := 1) C 117 dX11_told_116 rfl rfl rfl ?_
      refine G_calli 120 (G_runV C Kc_X11_goesOf KV_X11_191 (by omega) (by decide) (eM _ _ _) rfl (c_X11_goesOf 0 TX nT n l P s i p up eup (by omega)) rfl rfl rfl (Nat.le_of_ble_eq_true rfl) rfl dX11_told_117) rfl (fun x117 s117 h117 => ?_)
      have fn_1 : Qn s s117 := Qn.tr fn (h117.1.MR)
      have i_1 : mI TX nT n l P s117 := mI_fr i (h117.1)
      refine G_iadd C 121 dX11_told_120 rfl (fun x120 ex120 => ?_)
      exact G_iret C dX11_told_121 (⟨RM_i hR i_1 fn_1, by unfold s_told; rw [hxn, if_neg k5, if_neg c12, if_neg c12_1, if_neg c12_2, if_neg c12_3, if_neg c12_4, if_neg c12_5, if_neg c12_6, if_neg c12_7, if_pos c12_8, cup, ex120, h117.2]⟩)
    refine G_tsOut C 122 dX11_told_12 (by
      have e0 := g_ti (k := 0) 0 rfl c12
      have e1 := g_ti (k := 1) 1 rfl c12_1
      have e2 := g_ti (k := 2) 2 rfl c12_2
      have e3 := g_ti (k := 3) 3 rfl c12_3
      have e4 := g_ti (k := 4) 4 rfl c12_4
      have e5 := g_ti (k := 5) 5 rfl c12_5
      have e6 := g_ti (k := 6) 6 rfl c12_6
      have e7 := g_ti (k := 7) 7 rfl c12_7
      have e8 := g_ti (k := 8) 8 rfl c12_8
      omega) rfl ?_
    refine G_bipush (v := (-7)) C 124 dX11_told_122 rfl rfl ?_
    exact G_iret C dX11_told_124 (⟨⟨nT, n, l, hR⟩, by unfold s_told; rw [hxn, if_neg k5, if_neg c12, if_neg c12_1, if_neg c12_2, if_neg c12_3, if_neg c12_4, if_neg c12_5, if_neg c12_6, if_neg c12_7, if_neg c12_8]⟩)
  ·
    have k5 := h2.symm.trans c5
    refine G_bipush (v := (-5)) C 10 dX11_told_8 rfl rfl ?_
    exact G_iret C dX11_told_10 (⟨⟨nT, n, l, hR⟩, by unfold s_told; rw [hxn, if_pos k5]⟩)
theorem dX11_ring_0 : decode cX11_ring 0 = .ok (.iload_n 1, 1) := by decide +kernel
theorem dX11_ring_1 : decode cX11_ring 1 = .ok (.invokestatic 170, 3) := by decide +kernel
theorem dX11_ring_4 : decode cX11_ring 4 = .ok (.ifCond .ne 6, 3) := by decide +kernel
theorem dX11_ring_7 : decode cX11_ring 7 = .ok (.bipush (-5), 2) := by decide +kernel
theorem dX11_ring_9 : decode cX11_ring 9 = .ok (.ireturn, 1) := by decide +kernel
theorem dX11_ring_10 : decode cX11_ring 10 = .ok (.iload_n 2, 1) := by decide +kernel
theorem dX11_ring_11 : decode cX11_ring 11 = .ok (.tableswitch 62 0 3 #[29, 35, 41, 50], 29) := by decide +kernel
theorem dX11_ring_40 : decode cX11_ring 40 = .ok (.aload_n 0, 1) := by decide +kernel
theorem dX11_ring_41 : decode cX11_ring 41 = .ok (.iload_n 1, 1) := by decide +kernel
theorem dX11_ring_42 : decode cX11_ring 42 = .ok (.invokevirtual 197, 3) := by decide +kernel
theorem dX11_ring_45 : decode cX11_ring 45 = .ok (.ireturn, 1) := by decide +kernel
theorem dX11_ring_46 : decode cX11_ring 46 = .ok (.aload_n 0, 1) := by decide +kernel
theorem dX11_ring_47 : decode cX11_ring 47 = .ok (.iload_n 1, 1) := by decide +kernel
theorem dX11_ring_48 : decode cX11_ring 48 = .ok (.invokevirtual 200, 3) := by decide +kernel
theorem dX11_ring_51 : decode cX11_ring 51 = .ok (.ireturn, 1) := by decide +kernel
theorem dX11_ring_52 : decode cX11_ring 52 = .ok (.aload_n 0, 1) := by decide +kernel
theorem dX11_ring_53 : decode cX11_ring 53 = .ok (.iload_n 1, 1) := by decide +kernel
theorem dX11_ring_54 : decode cX11_ring 54 = .ok (.sipush 1023, 3) := by decide +kernel
theorem dX11_ring_57 : decode cX11_ring 57 = .ok (.invokevirtual 203, 3) := by decide +kernel
theorem dX11_ring_60 : decode cX11_ring 60 = .ok (.ireturn, 1) := by decide +kernel
theorem dX11_ring_61 : decode cX11_ring 61 = .ok (.aload_n 0, 1) := by decide +kernel
theorem dX11_ring_62 : decode cX11_ring 62 = .ok (.iload_n 1, 1) := by decide +kernel
theorem dX11_ring_63 : decode cX11_ring 63 = .ok (.aload_n 0, 1) := by decide +kernel
theorem dX11_ring_64 : decode cX11_ring 64 = .ok (.getfield 19, 3) := by decide +kernel
theorem dX11_ring_67 : decode cX11_ring 67 = .ok (.iconst 2, 1) := by decide +kernel
theorem dX11_ring_68 : decode cX11_ring 68 = .ok (.iaload, 1) := by decide +kernel
theorem dX11_ring_69 : decode cX11_ring 69 = .ok (.invokevirtual 203, 3) := by decide +kernel
theorem dX11_ring_72 : decode cX11_ring 72 = .ok (.ireturn, 1) := by decide +kernel
theorem dX11_ring_73 : decode cX11_ring 73 = .ok (.bipush (-7), 2) := by decide +kernel
theorem dX11_ring_75 : decode cX11_ring 75 = .ok (.ireturn, 1) := by decide +kernel
set_option maxHeartbeats 4000000 in
set_option maxRecDepth 100000 in
theorem c_X11_ring (d : Nat) (TX : gTX) (P B s : gS) (hR0 : RM TX P B s) (c q : Int32) : gMt SM yX11_ring cX11_ring 3 (some .int) (d + 9) (fun ad => [.ref (ad 0), .int c, .int q]) s (gQi SM (fun r s' => RM TX P B s' ∧ r = s_ring TX P c q)) := by
  obtain ⟨nT, n, l, hR⟩ := hR0
  have hI := hR.1
  have hn6 : n ≤ 6 := hI.2.1.2.1
  have hl6 : l < 6 := mI_l6 hI
  have hxn : x_n P = n := x_nOf hI.2.1.1 hn6
  have hbI := hR.2.2
  have hnT6 : nT ≤ 6 := hI.2.1.2.2.2.2.1
  obtain ⟨tn0, htn0, etn0⟩ := hbI.2.1
  refine gMt_of SM_ok (by decide +kernel) (fun ad => [some (.ref (ad 0)), some (.int c), some (.int q)]) (fun _ => rfl) (fun _ => rfl) (fun _ => Nat.le_of_ble_eq_true rfl) (fun E C0 => ?_)
  have C : gCx SM E RX11 cX11_ring 3 (some .int) (d + 9) := C0
  have fn : Qn s s := Qn.rf
  have i : mI TX nT n l P s := hI
  refine G_iload_n (i := 1) C 1 dX11_ring_0 rfl rfl rfl ?_
  refine G_calli 4 (G_runS C Kc_X11_isCorner KS_X11_170 (by omega) (c_X11_isCorner 0 c s) rfl rfl (Nat.le_of_ble_eq_true rfl) rfl dX11_ring_1) rfl (fun x1 s1 h1 => ?_)
  obtain ⟨es1, h1⟩ := h1
  have es1 := es1.symm
  subst es1
  refine G_if_ne C 10 7 dX11_ring_4 rfl rfl (fun c4 => ?_) (fun c4 => ?_)
  ·
    have k4 := g_neT h1 c4
    refine G_iload_n (i := 2) C 11 dX11_ring_10 rfl rfl rfl ?_
    by_cases c11 : q = 0
    ·
      refine G_tsIn C 40 (0) c11 dX11_ring_11 (by decide) rfl rfl ?_
      refine G_aload_n (i := 0) C 41 dX11_ring_40 rfl rfl rfl ?_
      refine G_iload_n (i := 1) C 42 dX11_ring_41 rfl rfl rfl ?_
      refine G_calli 45 (G_runV C Kc_X11_whoAt KV_X11_197 (by omega) (by decide) (eM _ _ _) rfl (c_X11_whoAt 0 TX nT n l P s i c) rfl rfl rfl (Nat.le_of_ble_eq_true rfl) rfl dX11_ring_42) rfl (fun x42 s42 h42 => ?_)
      obtain ⟨es42, h42⟩ := h42
      have es42 := es42.symm
      subst es42
      exact G_iret C dX11_ring_45 (⟨⟨nT, n, l, hR⟩, (h42).trans (by unfold s_ring; rw [if_neg k4, if_pos c11, hxn])⟩)
    by_cases c11_1 : q = 1
    ·
      refine G_tsIn C 46 (1) c11_1 dX11_ring_11 (by decide) rfl rfl ?_
      refine G_aload_n (i := 0) C 47 dX11_ring_46 rfl rfl rfl ?_
      refine G_iload_n (i := 1) C 48 dX11_ring_47 rfl rfl rfl ?_
      refine G_calli 51 (G_runV C Kc_X11_listeners KV_X11_200 (by omega) (by decide) (eM _ _ _) rfl (c_X11_listeners 0 TX nT n l P s i c) rfl rfl rfl (Nat.le_of_ble_eq_true rfl) rfl dX11_ring_48) rfl (fun x48 s48 h48 => ?_)
      obtain ⟨es48, h48⟩ := h48
      have es48 := es48.symm
      subst es48
      exact G_iret C dX11_ring_51 (⟨⟨nT, n, l, hR⟩, (h48).trans (by unfold s_ring; rw [if_neg k4, if_neg c11, if_pos c11_1, hxn])⟩)
    by_cases c11_2 : q = 2
    ·
      refine G_tsIn C 52 (2) c11_2 dX11_ring_11 (by decide) rfl rfl ?_
      refine G_aload_n (i := 0) C 53 dX11_ring_52 rfl rfl rfl ?_
      refine G_iload_n (i := 1) C 54 dX11_ring_53 rfl rfl rfl ?_
      refine G_sipush (v := 1023) C 57 dX11_ring_54 rfl rfl ?_
      refine G_calli 60 (G_runV C Kc_X11_maySet KV_X11_203 (by omega) (by decide) (eM _ _ _) rfl (c_X11_maySet 0 TX nT n l P s i c 1023) rfl rfl rfl (Nat.le_of_ble_eq_true rfl) rfl dX11_ring_57) rfl (fun x57 s57 h57 => ?_)
      have fn_1 : Qn s s57 := Qn.tr fn (h57.1.MR)
      have i_1 : mI TX nT n l P s57 := mI_fr i (h57.1)
      exact G_iret C dX11_ring_60 (⟨RM_i hR i_1 fn_1, (h57.2).trans (by unfold s_ring; rw [if_neg k4, if_neg c11, if_neg c11_1, if_pos c11_2])⟩)
    by_cases c11_3 : q = 3
    ·
      refine G_tsIn C 61 (3) c11_3 dX11_ring_11 (by decide) rfl rfl ?_
      refine G_aload_n (i := 0) C 62 dX11_ring_61 rfl rfl rfl ?_
      refine G_iload_n (i := 1) C 63 dX11_ring_62 rfl rfl rfl ?_
      refine G_aload_n (i := 0) C 64 dX11_ring_63 rfl rfl rfl ?_
      refine X11_19g C 67 dX11_ring_64 rfl ?_
      refine G_iconst (v := 2) C 68 dX11_ring_67 rfl rfl ?_
      refine G_iald (n := 13) C 69 (by decide) (eMk (by decide) _ _ _) (2) rfl (by omega) (by decide) dX11_ring_68 rfl (fun x68 ex68 => ?_)
      have Sx68 : x68 = P 0 2 := ex68.trans (mI_v i 0 2)
      obtain ⟨mx68, hmx68, emx68⟩ := i.2.1.2.2.2.2.2.2.2.1
      refine G_calli 72 (G_runV C Kc_X11_maySet KV_X11_203 (by omega) (by decide) (eM _ _ _) rfl (c_X11_maySet 0 TX nT n l P s i c x68) rfl rfl rfl (Nat.le_of_ble_eq_true rfl) rfl dX11_ring_69) rfl (fun x69 s69 h69 => ?_)
      have fn_1 : Qn s s69 := Qn.tr fn (h69.1.MR)
      have i_1 : mI TX nT n l P s69 := mI_fr i (h69.1)
      exact G_iret C dX11_ring_72 (⟨RM_i hR i_1 fn_1, (h69.2).trans (by unfold s_ring; rw [if_neg k4, if_neg c11, if_neg c11_1, if_neg c11_2, if_pos c11_3, Sx68])⟩)
    refine G_tsOut C 73 dX11_ring_11 (by
      have e0 := g_ti (k := 0) 0 rfl c11
      have e1 := g_ti (k := 1) 1 rfl c11_1
      have e2 := g_ti (k := 2) 2 rfl c11_2
      have e3 := g_ti (k := 3) 3 rfl c11_3
      omega) rfl ?_
    refine G_bipush (v := (-7)) C 75 dX11_ring_73 rfl rfl ?_
    exact G_iret C dX11_ring_75 (⟨⟨nT, n, l, hR⟩, by unfold s_ring; rw [if_neg k4, if_neg c11, if_neg c11_1, if_neg c11_2, if_neg c11_3]⟩)
  ·
    have k4 := h1.symm.trans c4
    refine G_bipush (v := (-5)) C 9 dX11_ring_7 rfl rfl ?_
    exact G_iret C dX11_ring_9 (⟨⟨nT, n, l, hR⟩, by unfold s_ring; rw [if_pos k4]⟩)
theorem dX11_hour_0 : decode cX11_hour 0 = .ok (.aload_n 0, 1) := by decide +kernel
theorem dX11_hour_1 : decode cX11_hour 1 = .ok (.getfield 19, 3) := by decide +kernel
theorem dX11_hour_4 : decode cX11_hour 4 = .ok (.iconst 0, 1) := by decide +kernel
theorem dX11_hour_5 : decode cX11_hour 5 = .ok (.iaload, 1) := by decide +kernel
theorem dX11_hour_6 : decode cX11_hour 6 = .ok (.sipush 9999, 3) := by decide +kernel
theorem dX11_hour_9 : decode cX11_hour 9 = .ok (.if_icmp .ne 8, 3) := by decide +kernel
theorem dX11_hour_12 : decode cX11_hour 12 = .ok (.bipush (-3), 2) := by decide +kernel
theorem dX11_hour_14 : decode cX11_hour 14 = .ok (.goto 7, 3) := by decide +kernel
theorem dX11_hour_17 : decode cX11_hour 17 = .ok (.aload_n 0, 1) := by decide +kernel
theorem dX11_hour_18 : decode cX11_hour 18 = .ok (.invokevirtual 209, 3) := by decide +kernel
theorem dX11_hour_21 : decode cX11_hour 21 = .ok (.ireturn, 1) := by decide +kernel
set_option maxHeartbeats 4000000 in
set_option maxRecDepth 100000 in
theorem c_X11_hour (d : Nat) (TX : gTX) (P B s : gS) (hR0 : RM TX P B s) : gMt SM yX11_hour cX11_hour 1 (some .int) (d + 10) (fun ad => [.ref (ad 0)]) s (gQi SM (fun r s' => RM TX (s_hoP TX P) B s' ∧ r = s_hoR TX P)) := by
  obtain ⟨nT, n, l, hR⟩ := hR0
  have hI := hR.1
  have hn6 : n ≤ 6 := hI.2.1.2.1
  have hl6 : l < 6 := mI_l6 hI
  have hxn : x_n P = n := x_nOf hI.2.1.1 hn6
  have hbI := hR.2.2
  have hnT6 : nT ≤ 6 := hI.2.1.2.2.2.2.1
  obtain ⟨tn0, htn0, etn0⟩ := hbI.2.1
  refine gMt_of SM_ok (by decide +kernel) (fun ad => [some (.ref (ad 0))]) (fun _ => rfl) (fun _ => rfl) (fun _ => Nat.le_of_ble_eq_true rfl) (fun E C0 => ?_)
  have C : gCx SM E RX11 cX11_hour 1 (some .int) (d + 10) := C0
  have fn : Qn s s := Qn.rf
  have i : mI TX nT n l P s := hI
  refine G_aload_n (i := 0) C 1 dX11_hour_0 rfl rfl rfl ?_
  refine X11_19g C 4 dX11_hour_1 rfl ?_
  refine G_iconst (v := 0) C 5 dX11_hour_4 rfl rfl ?_
  refine G_iald (n := 13) C 6 (by decide) (eMk (by decide) _ _ _) (0) rfl (by omega) (by decide) dX11_hour_5 rfl (fun x5 ex5 => ?_)
  have Sx5 : x5 = P 0 0 := ex5.trans (mI_v i 0 0)
  refine G_sipush (v := 9999) C 9 dX11_hour_6 rfl rfl ?_
  refine G_icmp_ne C 17 12 dX11_hour_9 rfl rfl (fun c9 => ?_) (fun c9 => ?_)
  ·
    refine G_aload_n (i := 0) C 18 dX11_hour_17 rfl rfl rfl ?_
    refine G_calli 21 (G_runV C Kc_X11_hourOf KV_X11_209 (by omega) (by decide) (eM _ _ _) rfl (c_X11_hourOf 0 TX nT n l P s i) rfl rfl rfl (Nat.le_of_ble_eq_true rfl) rfl dX11_hour_18) rfl (fun x18 s18 h18 => ?_)
    have fn_1 : Qn s s18 := Qn.tr fn (h18.1.HR)
    have i_1 : mI TX nT n l (x_pass TX P) s18 := h18.2.1
    exact G_iret C dX11_hour_21 (⟨by unfold s_hoP; rw [if_neg (fun z => c9 (Sx5.trans z))]; exact RM_up hR h18.2.1 fn_1 (x_pass_a TX P (by decide) (by decide) (by decide)) (x_pass_a TX P (by decide) (by decide) (by decide)) (eI_of hbI.2.2.2.2.2.1 (x_pass_a TX P (by decide) (by decide) (by decide))), h18.2.2.trans (by unfold s_hoR; rw [if_neg (fun z => c9 (Sx5.trans z))])⟩)
  ·
    refine G_bipush (v := (-3)) C 14 dX11_hour_12 rfl rfl ?_
    refine G_goto C 21 dX11_hour_14 rfl ?_
    exact G_iret C dX11_hour_21 (⟨by unfold s_hoP; rw [if_pos (Sx5.symm.trans c9)]; exact ⟨nT, n, l, hR⟩, by unfold s_hoR; rw [if_pos (Sx5.symm.trans c9)]⟩)
theorem dX11_criedIn_0 : decode cX11_criedIn 0 = .ok (.aload_n 0, 1) := by decide +kernel
theorem dX11_criedIn_1 : decode cX11_criedIn 1 = .ok (.invokevirtual 212, 3) := by decide +kernel
theorem dX11_criedIn_4 : decode cX11_criedIn 4 = .ok (.aload_n 0, 1) := by decide +kernel
theorem dX11_criedIn_5 : decode cX11_criedIn 5 = .ok (.iload_n 1, 1) := by decide +kernel
theorem dX11_criedIn_6 : decode cX11_criedIn 6 = .ok (.invokevirtual 215, 3) := by decide +kernel
theorem dX11_criedIn_9 : decode cX11_criedIn 9 = .ok (.istore_n 2, 1) := by decide +kernel
theorem dX11_criedIn_10 : decode cX11_criedIn 10 = .ok (.aload_n 0, 1) := by decide +kernel
theorem dX11_criedIn_11 : decode cX11_criedIn 11 = .ok (.invokevirtual 218, 3) := by decide +kernel
theorem dX11_criedIn_14 : decode cX11_criedIn 14 = .ok (.iload_n 2, 1) := by decide +kernel
theorem dX11_criedIn_15 : decode cX11_criedIn 15 = .ok (.ireturn, 1) := by decide +kernel
set_option maxHeartbeats 4000000 in
set_option maxRecDepth 100000 in
theorem c_X11_criedIn (d : Nat) (TX : gTX) (nT n l : Nat) (P s : gS) (hI : mI TX nT n l P s) (x : Int32) (m : Nat) (hx : x = nI m) (hm : m ≤ 1000) : gMt SM yX11_criedIn cX11_criedIn 3 (some .int) (d + 11) (fun ad => [.ref (ad 0), .int x]) s (gQi SM (fun r s' => Fr mK s s' ∧ mI TX nT n l P s' ∧ r = x_cr TX m P)) := by
  have hn6 : n ≤ 6 := hI.2.1.2.1
  have hl6 : l < 6 := mI_l6 hI
  refine gMt_of SM_ok (by decide +kernel) (fun ad => [some (.ref (ad 0)), some (.int x), none]) (fun _ => rfl) (fun _ => rfl) (fun _ => Nat.le_of_ble_eq_true rfl) (fun E C0 => ?_)
  have C : gCx SM E RX11 cX11_criedIn 3 (some .int) (d + 11) := C0
  have i : mI TX nT n l P s := hI
  have fk : Fr mK s s := Fr.rf
  refine G_aload_n (i := 0) C 1 dX11_criedIn_0 rfl rfl rfl ?_
  refine G_callv 4 (G_runV C Kc_X11_keeps KV_X11_212 (by omega) (by decide) (eM _ _ _) rfl (c_X11_keeps 0 s) rfl rfl rfl (Nat.le_of_ble_eq_true rfl) rfl dX11_criedIn_1) rfl (fun s1 h1 => ?_)
  have i_1 : mI TX nT n l P s1 := mI_kp i h1.1
  have fk_1 : Fr mK s s1 := Fr.tr fk (h1.1.mono (fun k hk => by unfold mK; omega))
  have kp1 : kp s s1 := h1.2
  refine G_aload_n (i := 0) C 5 dX11_criedIn_4 rfl rfl rfl ?_
  refine G_iload_n (i := 1) C 6 dX11_criedIn_5 rfl rfl rfl ?_
  refine G_calli 9 (G_runV C Kc_X11_goes KV_X11_215 (by omega) (by decide) (eM _ _ _) rfl (c_X11_goes 0 TX nT n l P s1 i_1 x m hx (by omega)) rfl rfl rfl (Nat.le_of_ble_eq_true rfl) rfl dX11_criedIn_6) rfl (fun x6 s6 h6 => ?_)
  have i_2 : mI TX nT n l (x_run TX m P) s6 := h6.2.1
  have kp_1 : kp s s6 := kp_fr kp1 h6.1 (by unfold mH; omega)
  have fk_2 : Fr mK s s6 := Fr.tr fk_1 h6.1.HK
  refine G_istore_n (i := 2) (L' := [some (.ref (e_ad E 0)), some (.int x), some (.int x6)]) C 10 dX11_criedIn_9 rfl rfl (Nat.le_of_ble_eq_true rfl) rfl rfl ?_
  refine G_aload_n (i := 0) C 11 dX11_criedIn_10 rfl rfl rfl ?_
  refine G_callv 14 (G_runV C Kc_X11_lays KV_X11_218 (by omega) (by decide) (eM _ _ _) rfl (c_X11_lays 0 s6) rfl rfl rfl (Nat.le_of_ble_eq_true rfl) rfl dX11_criedIn_11) rfl (fun s11 h11 => ?_)
  have i_3 : mI TX nT n l P s11 := mI_lays (s1 := s) hI kp_1 i_2 (x_run_1 _ _ _) fk_2 h11.2 h11.1
  have fk_3 : Fr mK s s11 := Fr.tr fk_2 (h11.1.mono (fun k hk => by unfold mK; omega))
  refine G_iload_n (i := 2) C 15 dX11_criedIn_14 rfl rfl rfl ?_
  exact G_iret C dX11_criedIn_15 (⟨fk_3, i_3, h6.2.2⟩)
theorem dX11_run_0 : decode cX11_run 0 = .ok (.iload_n 2, 1) := by decide +kernel
theorem dX11_run_1 : decode cX11_run 1 = .ok (.iconst 0, 1) := by decide +kernel
theorem dX11_run_2 : decode cX11_run 2 = .ok (.iconst 2, 1) := by decide +kernel
theorem dX11_run_3 : decode cX11_run 3 = .ok (.invokestatic 78, 3) := by decide +kernel
theorem dX11_run_6 : decode cX11_run 6 = .ok (.ifCond .ne 35, 3) := by decide +kernel
theorem dX11_run_9 : decode cX11_run 9 = .ok (.iload_n 2, 1) := by decide +kernel
theorem dX11_run_10 : decode cX11_run 10 = .ok (.bipush 10, 2) := by decide +kernel
theorem dX11_run_12 : decode cX11_run 12 = .ok (.bipush 9, 2) := by decide +kernel
theorem dX11_run_14 : decode cX11_run 14 = .ok (.aload_n 0, 1) := by decide +kernel
theorem dX11_run_15 : decode cX11_run 15 = .ok (.getfield 75, 3) := by decide +kernel
theorem dX11_run_18 : decode cX11_run 18 = .ok (.iadd, 1) := by decide +kernel
theorem dX11_run_19 : decode cX11_run 19 = .ok (.invokestatic 78, 3) := by decide +kernel
theorem dX11_run_22 : decode cX11_run 22 = .ok (.ifCond .ne 19, 3) := by decide +kernel
theorem dX11_run_25 : decode cX11_run 25 = .ok (.iload_n 2, 1) := by decide +kernel
theorem dX11_run_26 : decode cX11_run 26 = .ok (.bipush 20, 2) := by decide +kernel
theorem dX11_run_28 : decode cX11_run 28 = .ok (.bipush 19, 2) := by decide +kernel
theorem dX11_run_30 : decode cX11_run 30 = .ok (.aload_n 0, 1) := by decide +kernel
theorem dX11_run_31 : decode cX11_run 31 = .ok (.getfield 75, 3) := by decide +kernel
theorem dX11_run_34 : decode cX11_run 34 = .ok (.iadd, 1) := by decide +kernel
theorem dX11_run_35 : decode cX11_run 35 = .ok (.invokestatic 78, 3) := by decide +kernel
theorem dX11_run_38 : decode cX11_run 38 = .ok (.ifCond .eq 7, 3) := by decide +kernel
theorem dX11_run_41 : decode cX11_run 41 = .ok (.iconst 1, 1) := by decide +kernel
theorem dX11_run_42 : decode cX11_run 42 = .ok (.goto 4, 3) := by decide +kernel
theorem dX11_run_45 : decode cX11_run 45 = .ok (.iconst 0, 1) := by decide +kernel
theorem dX11_run_46 : decode cX11_run 46 = .ok (.istore_n 3, 1) := by decide +kernel
theorem dX11_run_47 : decode cX11_run 47 = .ok (.iload_n 1, 1) := by decide +kernel
theorem dX11_run_48 : decode cX11_run 48 = .ok (.iconst 0, 1) := by decide +kernel
theorem dX11_run_49 : decode cX11_run 49 = .ok (.bipush 40, 2) := by decide +kernel
theorem dX11_run_51 : decode cX11_run 51 = .ok (.invokestatic 78, 3) := by decide +kernel
theorem dX11_run_54 : decode cX11_run 54 = .ok (.ifCond .eq 7, 3) := by decide +kernel
theorem dX11_run_57 : decode cX11_run 57 = .ok (.iload_n 3, 1) := by decide +kernel
theorem dX11_run_58 : decode cX11_run 58 = .ok (.ifCond .ne 6, 3) := by decide +kernel
theorem dX11_run_61 : decode cX11_run 61 = .ok (.bipush (-2), 2) := by decide +kernel
theorem dX11_run_63 : decode cX11_run 63 = .ok (.ireturn, 1) := by decide +kernel
theorem dX11_run_64 : decode cX11_run 64 = .ok (.aload_n 0, 1) := by decide +kernel
theorem dX11_run_65 : decode cX11_run 65 = .ok (.invokevirtual 212, 3) := by decide +kernel
theorem dX11_run_68 : decode cX11_run 68 = .ok (.aload_n 0, 1) := by decide +kernel
theorem dX11_run_69 : decode cX11_run 69 = .ok (.iload_n 1, 1) := by decide +kernel
theorem dX11_run_70 : decode cX11_run 70 = .ok (.invokevirtual 215, 3) := by decide +kernel
theorem dX11_run_73 : decode cX11_run 73 = .ok (.istore 4, 2) := by decide +kernel
theorem dX11_run_75 : decode cX11_run 75 = .ok (.iload_n 2, 1) := by decide +kernel
theorem dX11_run_76 : decode cX11_run 76 = .ok (.tableswitch 51 0 2 #[28, 39, 42], 28) := by decide +kernel
theorem dX11_run_104 : decode cX11_run 104 = .ok (.aload_n 0, 1) := by decide +kernel
theorem dX11_run_105 : decode cX11_run 105 = .ok (.getfield 19, 3) := by decide +kernel
theorem dX11_run_108 : decode cX11_run 108 = .ok (.iconst 2, 1) := by decide +kernel
theorem dX11_run_109 : decode cX11_run 109 = .ok (.iaload, 1) := by decide +kernel
theorem dX11_run_110 : decode cX11_run 110 = .ok (.istore 4, 2) := by decide +kernel
theorem dX11_run_112 : decode cX11_run 112 = .ok (.goto 50, 3) := by decide +kernel
theorem dX11_run_115 : decode cX11_run 115 = .ok (.goto 47, 3) := by decide +kernel
theorem dX11_run_118 : decode cX11_run 118 = .ok (.aload_n 0, 1) := by decide +kernel
theorem dX11_run_119 : decode cX11_run 119 = .ok (.invokevirtual 221, 3) := by decide +kernel
theorem dX11_run_122 : decode cX11_run 122 = .ok (.istore 4, 2) := by decide +kernel
theorem dX11_run_124 : decode cX11_run 124 = .ok (.goto 38, 3) := by decide +kernel
theorem dX11_run_127 : decode cX11_run 127 = .ok (.iload_n 2, 1) := by decide +kernel
theorem dX11_run_128 : decode cX11_run 128 = .ok (.bipush 20, 2) := by decide +kernel
theorem dX11_run_130 : decode cX11_run 130 = .ok (.if_icmp .ge 17, 3) := by decide +kernel
theorem dX11_run_133 : decode cX11_run 133 = .ok (.aload_n 0, 1) := by decide +kernel
theorem dX11_run_134 : decode cX11_run 134 = .ok (.getfield 16, 3) := by decide +kernel
theorem dX11_run_137 : decode cX11_run 137 = .ok (.iconst 4, 1) := by decide +kernel
theorem dX11_run_138 : decode cX11_run 138 = .ok (.iload_n 2, 1) := by decide +kernel
theorem dX11_run_139 : decode cX11_run 139 = .ok (.bipush 10, 2) := by decide +kernel
theorem dX11_run_141 : decode cX11_run 141 = .ok (.isub, 1) := by decide +kernel
theorem dX11_run_142 : decode cX11_run 142 = .ok (.imul, 1) := by decide +kernel
theorem dX11_run_143 : decode cX11_run 143 = .ok (.iaload, 1) := by decide +kernel
theorem dX11_run_144 : decode cX11_run 144 = .ok (.goto 16, 3) := by decide +kernel
theorem dX11_run_147 : decode cX11_run 147 = .ok (.aload_n 0, 1) := by decide +kernel
theorem dX11_run_148 : decode cX11_run 148 = .ok (.getfield 16, 3) := by decide +kernel
theorem dX11_run_151 : decode cX11_run 151 = .ok (.iconst 4, 1) := by decide +kernel
theorem dX11_run_152 : decode cX11_run 152 = .ok (.iload_n 2, 1) := by decide +kernel
theorem dX11_run_153 : decode cX11_run 153 = .ok (.bipush 20, 2) := by decide +kernel
theorem dX11_run_155 : decode cX11_run 155 = .ok (.isub, 1) := by decide +kernel
theorem dX11_run_156 : decode cX11_run 156 = .ok (.imul, 1) := by decide +kernel
theorem dX11_run_157 : decode cX11_run 157 = .ok (.iconst 2, 1) := by decide +kernel
theorem dX11_run_158 : decode cX11_run 158 = .ok (.iadd, 1) := by decide +kernel
theorem dX11_run_159 : decode cX11_run 159 = .ok (.iaload, 1) := by decide +kernel
theorem dX11_run_160 : decode cX11_run 160 = .ok (.istore 4, 2) := by decide +kernel
theorem dX11_run_162 : decode cX11_run 162 = .ok (.aload_n 0, 1) := by decide +kernel
theorem dX11_run_163 : decode cX11_run 163 = .ok (.invokevirtual 218, 3) := by decide +kernel
theorem dX11_run_166 : decode cX11_run 166 = .ok (.iload 4, 2) := by decide +kernel
theorem dX11_run_168 : decode cX11_run 168 = .ok (.ireturn, 1) := by decide +kernel
set_option maxHeartbeats 4000000 in
set_option maxRecDepth 100000 in
theorem c_X11_run (d : Nat) (TX : gTX) (P B s : gS) (hR0 : RM TX P B s) (m q : Int32) : gMt SM yX11_run cX11_run 5 (some .int) (d + 11) (fun ad => [.ref (ad 0), .int m, .int q]) s (gQi SM (fun r s' => RM TX P B s' ∧ r = s_run TX P m q)) := by
  obtain ⟨nT, n, l, hR⟩ := hR0
  have hI := hR.1
  have hn6 : n ≤ 6 := hI.2.1.2.1
  have hl6 : l < 6 := mI_l6 hI
  have hxn : x_n P = n := x_nOf hI.2.1.1 hn6
  have hbI := hR.2.2
  have hnT6 : nT ≤ 6 := hI.2.1.2.2.2.2.1
  obtain ⟨tn0, htn0, etn0⟩ := hbI.2.1
  refine gMt_of SM_ok (by decide +kernel) (fun ad => [some (.ref (ad 0)), some (.int m), some (.int q), none, none]) (fun _ => rfl) (fun _ => rfl) (fun _ => Nat.le_of_ble_eq_true rfl) (fun E C0 => ?_)
  have C : gCx SM E RX11 cX11_run 5 (some .int) (d + 11) := C0
  have fn : Qn s s := Qn.rf
  have i : mI TX nT n l P s := hI
  have fk : Fr mK s s := Fr.rf
  refine G_iload_n (i := 2) C 1 dX11_run_0 rfl rfl rfl ?_
  refine G_iconst (v := 0) C 2 dX11_run_1 rfl rfl ?_
  refine G_iconst (v := 2) C 3 dX11_run_2 rfl rfl ?_
  refine G_calli 6 (G_runS C Kc_X11_in KS_X11_78 (by omega) (c_X11_in 0 q 0 2 s) rfl rfl (Nat.le_of_ble_eq_true rfl) rfl dX11_run_3) rfl (fun x3 s3 h3 => ?_)
  obtain ⟨es3, h3⟩ := h3
  have es3 := es3.symm
  subst es3
  refine G_if_ne C 41 9 dX11_run_6 rfl rfl (fun c6 => ?_) (fun c6 => ?_)
  ·
    have k6 := g_neT h3 c6
    refine G_iconst (v := 1) C 42 dX11_run_41 rfl rfl ?_
    refine G_goto C 46 dX11_run_42 rfl ?_
    refine G_istore_n (i := 3) (L' := [some (.ref (e_ad E 0)), some (.int m), some (.int q), some (.int 1), none]) C 47 dX11_run_46 rfl rfl (Nat.le_of_ble_eq_true rfl) rfl rfl ?_
    refine G_iload_n (i := 1) C 48 dX11_run_47 rfl rfl rfl ?_
    refine G_iconst (v := 0) C 49 dX11_run_48 rfl rfl ?_
    refine G_bipush (v := 40) C 51 dX11_run_49 rfl rfl ?_
    refine G_calli 54 (G_runS C Kc_X11_in KS_X11_78 (by omega) (c_X11_in 0 m 0 40 s) rfl rfl (Nat.le_of_ble_eq_true rfl) rfl dX11_run_51) rfl (fun x51 s51 h51 => ?_)
    obtain ⟨es51, h51⟩ := h51
    have es51 := es51.symm
    subst es51
    refine G_if_eq C 61 57 dX11_run_54 rfl rfl (fun c54 => ?_) (fun c54 => ?_)
    ·
      have k54 := h51.symm.trans c54
      refine G_bipush (v := (-2)) C 63 dX11_run_61 rfl rfl ?_
      exact G_iret C dX11_run_63 (⟨⟨nT, n, l, hR⟩, by unfold s_run s_ruOk; rw [if_pos k54, if_pos rfl]⟩)
    ·
      have k54 := g_neT h51 c54
      obtain ⟨um, hum, eum⟩ := x_inR (b := 40) k54 rfl (by decide)
      have cum : m.toNatClampNeg = um := by rw [eum, nI_clamp (by omega)]
      refine G_iload_n (i := 3) C 58 dX11_run_57 rfl rfl rfl ?_
      refine G_if_ne C 64 61 dX11_run_58 rfl rfl (fun _ => ?_) (fun c => absurd c (by decide))
      refine G_aload_n (i := 0) C 65 dX11_run_64 rfl rfl rfl ?_
      refine G_callv 68 (G_runV C Kc_X11_keeps KV_X11_212 (by omega) (by decide) (eM _ _ _) rfl (c_X11_keeps 0 s) rfl rfl rfl (Nat.le_of_ble_eq_true rfl) rfl dX11_run_65) rfl (fun s65 h65 => ?_)
      have fn_1 : Qn s s65 := Qn.tr fn ((Fr.mono (m' := mK) h65.1 (fun k hk => by unfold mK; omega)).KR)
      have i_1 : mI TX nT n l P s65 := mI_kp i h65.1
      have fk_1 : Fr mK s s65 := Fr.tr fk (h65.1.mono (fun k hk => by unfold mK; omega))
      have kp1 : kp s s65 := h65.2
      refine G_aload_n (i := 0) C 69 dX11_run_68 rfl rfl rfl ?_
      refine G_iload_n (i := 1) C 70 dX11_run_69 rfl rfl rfl ?_
      refine G_calli 73 (G_runV C Kc_X11_goes KV_X11_215 (by omega) (by decide) (eM _ _ _) rfl (c_X11_goes 0 TX nT n l P s65 i_1 m um eum (by omega)) rfl rfl rfl (Nat.le_of_ble_eq_true rfl) rfl dX11_run_70) rfl (fun x70 s70 h70 => ?_)
      have fn_2 : Qn s s70 := Qn.tr fn_1 (h70.1.HR)
      have i_2 : mI TX nT n l (x_run TX um P) s70 := h70.2.1
      have kp_1 : kp s s70 := kp_fr kp1 h70.1 (by unfold mH; omega)
      have fk_2 : Fr mK s s70 := Fr.tr fk_1 h70.1.HK
      refine G_istore (L' := [some (.ref (e_ad E 0)), some (.int m), some (.int q), some (.int 1), some (.int x70)]) C 75 dX11_run_73 rfl (Nat.le_of_ble_eq_true rfl) rfl rfl ?_
      refine G_iload_n (i := 2) C 76 dX11_run_75 rfl rfl rfl ?_
      by_cases c76 : q = 0
      ·
        refine G_tsIn C 104 (0) c76 dX11_run_76 (by decide) rfl rfl ?_
        refine G_aload_n (i := 0) C 105 dX11_run_104 rfl rfl rfl ?_
        refine X11_19g C 108 dX11_run_105 rfl ?_
        refine G_iconst (v := 2) C 109 dX11_run_108 rfl rfl ?_
        refine G_iald (n := 13) C 110 (by decide) (eMk (by decide) _ _ _) (2) rfl (by omega) (by decide) dX11_run_109 rfl (fun x109 ex109 => ?_)
        have Sx109 : x109 = (x_run TX um P) 0 2 := ex109.trans (mI_v i_2 0 2)
        obtain ⟨mx109, hmx109, emx109⟩ := i_2.2.1.2.2.2.2.2.2.2.1
        refine G_istore (L' := [some (.ref (e_ad E 0)), some (.int m), some (.int q), some (.int 1), some (.int x109)]) C 112 dX11_run_110 rfl (Nat.le_of_ble_eq_true rfl) rfl rfl ?_
        refine G_goto C 162 dX11_run_112 rfl ?_
        refine G_aload_n (i := 0) C 163 dX11_run_162 rfl rfl rfl ?_
        refine G_callv 166 (G_runV C Kc_X11_lays KV_X11_218 (by omega) (by decide) (eM _ _ _) rfl (c_X11_lays 0 s70) rfl rfl rfl (Nat.le_of_ble_eq_true rfl) rfl dX11_run_163) rfl (fun s163 h163 => ?_)
        have fn_3 : Qn s s163 := Qn.tr fn_2 ((Fr.mono (m' := mK) h163.1 (fun k hk => by unfold mK; omega)).KR)
        have i_3 : mI TX nT n l P s163 := mI_lays (s1 := s) hI kp_1 i_2 (x_run_1 _ _ _) fk_2 h163.2 h163.1
        have fk_3 : Fr mK s s163 := Fr.tr fk_2 (h163.1.mono (fun k hk => by unfold mK; omega))
        refine G_iload C 168 dX11_run_166 rfl rfl ?_
        have hok : ¬ s_ruOk P m q = 0 := by unfold s_ruOk; rw [if_neg k54, if_neg k6]; first | decide | exact k38
        exact G_iret C dX11_run_168 (⟨RM_i hR i_3 fn_3, by unfold s_run; rw [if_neg hok, cum, if_pos c76]; exact Sx109⟩)
      by_cases c76_1 : q = 1
      ·
        refine G_tsIn C 115 (1) c76_1 dX11_run_76 (by decide) rfl rfl ?_
        refine G_goto C 162 dX11_run_115 rfl ?_
        refine G_aload_n (i := 0) C 163 dX11_run_162 rfl rfl rfl ?_
        refine G_callv 166 (G_runV C Kc_X11_lays KV_X11_218 (by omega) (by decide) (eM _ _ _) rfl (c_X11_lays 0 s70) rfl rfl rfl (Nat.le_of_ble_eq_true rfl) rfl dX11_run_163) rfl (fun s163 h163 => ?_)
        have fn_3 : Qn s s163 := Qn.tr fn_2 ((Fr.mono (m' := mK) h163.1 (fun k hk => by unfold mK; omega)).KR)
        have i_3 : mI TX nT n l P s163 := mI_lays (s1 := s) hI kp_1 i_2 (x_run_1 _ _ _) fk_2 h163.2 h163.1
        have fk_3 : Fr mK s s163 := Fr.tr fk_2 (h163.1.mono (fun k hk => by unfold mK; omega))
        refine G_iload C 168 dX11_run_166 rfl rfl ?_
        have hok : ¬ s_ruOk P m q = 0 := by unfold s_ruOk; rw [if_neg k54, if_neg k6]; first | decide | exact k38
        exact G_iret C dX11_run_168 (⟨RM_i hR i_3 fn_3, by unfold s_run; rw [if_neg hok, cum, if_neg c76, if_pos c76_1]; exact h70.2.2⟩)
      by_cases c76_2 : q = 2
      ·
        refine G_tsIn C 118 (2) c76_2 dX11_run_76 (by decide) rfl rfl ?_
        refine G_aload_n (i := 0) C 119 dX11_run_118 rfl rfl rfl ?_
        refine G_calli 122 (G_runV C Kc_X11_knownAll KV_X11_221 (by omega) (by decide) (eM _ _ _) rfl (c_X11_knownAll 0 TX nT n l (x_run TX um P) s70 i_2) rfl rfl rfl (Nat.le_of_ble_eq_true rfl) rfl dX11_run_119) rfl (fun x119 s119 h119 => ?_)
        obtain ⟨es119, h119⟩ := h119
        have es119 := es119.symm
        subst es119
        refine G_istore (L' := [some (.ref (e_ad E 0)), some (.int m), some (.int q), some (.int 1), some (.int x119)]) C 124 dX11_run_122 rfl (Nat.le_of_ble_eq_true rfl) rfl rfl ?_
        refine G_goto C 162 dX11_run_124 rfl ?_
        refine G_aload_n (i := 0) C 163 dX11_run_162 rfl rfl rfl ?_
        refine G_callv 166 (G_runV C Kc_X11_lays KV_X11_218 (by omega) (by decide) (eM _ _ _) rfl (c_X11_lays 0 s70) rfl rfl rfl (Nat.le_of_ble_eq_true rfl) rfl dX11_run_163) rfl (fun s163 h163 => ?_)
        have fn_3 : Qn s s163 := Qn.tr fn_2 ((Fr.mono (m' := mK) h163.1 (fun k hk => by unfold mK; omega)).KR)
        have i_3 : mI TX nT n l P s163 := mI_lays (s1 := s) hI kp_1 i_2 (x_run_1 _ _ _) fk_2 h163.2 h163.1
        have fk_3 : Fr mK s s163 := Fr.tr fk_2 (h163.1.mono (fun k hk => by unfold mK; omega))
        refine G_iload C 168 dX11_run_166 rfl rfl ?_
        have hok : ¬ s_ruOk P m q = 0 := by unfold s_ruOk; rw [if_neg k54, if_neg k6]; first | decide | exact k38
        exact G_iret C dX11_run_168 (⟨RM_i hR i_3 fn_3, by unfold s_run; rw [if_neg hok, cum, if_neg c76, if_neg c76_1, if_pos c76_2, hxn]; exact h119⟩)
      exfalso; obtain ⟨z, hz, ez⟩ := x_inR (b := 2) k6 rfl (by decide); have : z = 0 ∨ z = 1 ∨ z = 2 := (by omega); rcases this with rfl | rfl | rfl <;> first | exact c76 ez | exact c76_1 ez | exact c76_2 ez
  ·
    have k6 := h3.symm.trans c6
    refine G_iload_n (i := 2) C 10 dX11_run_9 rfl rfl rfl ?_
    refine G_bipush (v := 10) C 12 dX11_run_10 rfl rfl ?_
    refine G_bipush (v := 9) C 14 dX11_run_12 rfl rfl ?_
    refine G_aload_n (i := 0) C 15 dX11_run_14 rfl rfl rfl ?_
    refine X11_75g C 18 dX11_run_15 rfl (fun x15 ex15 => ?_)
    have Sx15 : x15 = nI n := ex15.trans (mI_n i)
    refine G_iadd C 19 dX11_run_18 rfl (fun x18 ex18 => ?_)
    have Nx18 : x18 = nI (9 + n) := g_addN ex18 rfl Sx15
    refine G_calli 22 (G_runS C Kc_X11_in KS_X11_78 (by omega) (c_X11_in 0 q 10 x18 s) rfl rfl (Nat.le_of_ble_eq_true rfl) rfl dX11_run_19) rfl (fun x19 s19 h19 => ?_)
    obtain ⟨es19, h19⟩ := h19
    have es19 := es19.symm
    subst es19
    refine G_if_ne C 41 25 dX11_run_22 rfl rfl (fun c22 => ?_) (fun c22 => ?_)
    ·
      have k22 := g_neT h19 c22
      refine G_iconst (v := 1) C 42 dX11_run_41 rfl rfl ?_
      refine G_goto C 46 dX11_run_42 rfl ?_
      refine G_istore_n (i := 3) (L' := [some (.ref (e_ad E 0)), some (.int m), some (.int q), some (.int 1), none]) C 47 dX11_run_46 rfl rfl (Nat.le_of_ble_eq_true rfl) rfl rfl ?_
      refine G_iload_n (i := 1) C 48 dX11_run_47 rfl rfl rfl ?_
      refine G_iconst (v := 0) C 49 dX11_run_48 rfl rfl ?_
      refine G_bipush (v := 40) C 51 dX11_run_49 rfl rfl ?_
      refine G_calli 54 (G_runS C Kc_X11_in KS_X11_78 (by omega) (c_X11_in 0 m 0 40 s) rfl rfl (Nat.le_of_ble_eq_true rfl) rfl dX11_run_51) rfl (fun x51 s51 h51 => ?_)
      obtain ⟨es51, h51⟩ := h51
      have es51 := es51.symm
      subst es51
      refine G_if_eq C 61 57 dX11_run_54 rfl rfl (fun c54 => ?_) (fun c54 => ?_)
      ·
        have k54 := h51.symm.trans c54
        refine G_bipush (v := (-2)) C 63 dX11_run_61 rfl rfl ?_
        exact G_iret C dX11_run_63 (⟨⟨nT, n, l, hR⟩, by unfold s_run s_ruOk; rw [if_pos k54, if_pos rfl]⟩)
      ·
        have k54 := g_neT h51 c54
        obtain ⟨um, hum, eum⟩ := x_inR (b := 40) k54 rfl (by decide)
        have cum : m.toNatClampNeg = um := by rw [eum, nI_clamp (by omega)]
        refine G_iload_n (i := 3) C 58 dX11_run_57 rfl rfl rfl ?_
        refine G_if_ne C 64 61 dX11_run_58 rfl rfl (fun _ => ?_) (fun c => absurd c (by decide))
        refine G_aload_n (i := 0) C 65 dX11_run_64 rfl rfl rfl ?_
        refine G_callv 68 (G_runV C Kc_X11_keeps KV_X11_212 (by omega) (by decide) (eM _ _ _) rfl (c_X11_keeps 0 s) rfl rfl rfl (Nat.le_of_ble_eq_true rfl) rfl dX11_run_65) rfl (fun s65 h65 => ?_)
        have fn_1 : Qn s s65 := Qn.tr fn ((Fr.mono (m' := mK) h65.1 (fun k hk => by unfold mK; omega)).KR)
        have i_1 : mI TX nT n l P s65 := mI_kp i h65.1
        have fk_1 : Fr mK s s65 := Fr.tr fk (h65.1.mono (fun k hk => by unfold mK; omega))
        have kp1 : kp s s65 := h65.2
        refine G_aload_n (i := 0) C 69 dX11_run_68 rfl rfl rfl ?_
        refine G_iload_n (i := 1) C 70 dX11_run_69 rfl rfl rfl ?_
        refine G_calli 73 (G_runV C Kc_X11_goes KV_X11_215 (by omega) (by decide) (eM _ _ _) rfl (c_X11_goes 0 TX nT n l P s65 i_1 m um eum (by omega)) rfl rfl rfl (Nat.le_of_ble_eq_true rfl) rfl dX11_run_70) rfl (fun x70 s70 h70 => ?_)
        have fn_2 : Qn s s70 := Qn.tr fn_1 (h70.1.HR)
        have i_2 : mI TX nT n l (x_run TX um P) s70 := h70.2.1
        have kp_1 : kp s s70 := kp_fr kp1 h70.1 (by unfold mH; omega)
        have fk_2 : Fr mK s s70 := Fr.tr fk_1 h70.1.HK
        refine G_istore (L' := [some (.ref (e_ad E 0)), some (.int m), some (.int q), some (.int 1), some (.int x70)]) C 75 dX11_run_73 rfl (Nat.le_of_ble_eq_true rfl) rfl rfl ?_
        refine G_iload_n (i := 2) C 76 dX11_run_75 rfl rfl rfl ?_
        by_cases c76 : q = 0
        ·
          refine G_tsIn C 104 (0) c76 dX11_run_76 (by decide) rfl rfl ?_
          refine G_aload_n (i := 0) C 105 dX11_run_104 rfl rfl rfl ?_
          refine X11_19g C 108 dX11_run_105 rfl ?_
          refine G_iconst (v := 2) C 109 dX11_run_108 rfl rfl ?_
          refine G_iald (n := 13) C 110 (by decide) (eMk (by decide) _ _ _) (2) rfl (by omega) (by decide) dX11_run_109 rfl (fun x109 ex109 => ?_)
          have Sx109 : x109 = (x_run TX um P) 0 2 := ex109.trans (mI_v i_2 0 2)
          obtain ⟨mx109, hmx109, emx109⟩ := i_2.2.1.2.2.2.2.2.2.2.1
          refine G_istore (L' := [some (.ref (e_ad E 0)), some (.int m), some (.int q), some (.int 1), some (.int x109)]) C 112 dX11_run_110 rfl (Nat.le_of_ble_eq_true rfl) rfl rfl ?_
          refine G_goto C 162 dX11_run_112 rfl ?_
          refine G_aload_n (i := 0) C 163 dX11_run_162 rfl rfl rfl ?_
          refine G_callv 166 (G_runV C Kc_X11_lays KV_X11_218 (by omega) (by decide) (eM _ _ _) rfl (c_X11_lays 0 s70) rfl rfl rfl (Nat.le_of_ble_eq_true rfl) rfl dX11_run_163) rfl (fun s163 h163 => ?_)
          have fn_3 : Qn s s163 := Qn.tr fn_2 ((Fr.mono (m' := mK) h163.1 (fun k hk => by unfold mK; omega)).KR)
          have i_3 : mI TX nT n l P s163 := mI_lays (s1 := s) hI kp_1 i_2 (x_run_1 _ _ _) fk_2 h163.2 h163.1
          have fk_3 : Fr mK s s163 := Fr.tr fk_2 (h163.1.mono (fun k hk => by unfold mK; omega))
          refine G_iload C 168 dX11_run_166 rfl rfl ?_
          have e19 : x_one (q - 10) n = x_in q 10 x18 := by rw [Nx18, show (10 : Int32) = nI 10 from rfl]; exact (y_oneK (c := 10) hn6 (by omega) (by omega)).symm
          have hok : ¬ s_ruOk P m q = 0 := by unfold s_ruOk; rw [if_neg k54, if_pos k6, hxn, e19, if_neg k22]; first | decide | exact k38
          exact G_iret C dX11_run_168 (⟨RM_i hR i_3 fn_3, by unfold s_run; rw [if_neg hok, cum, if_pos c76]; exact Sx109⟩)
        by_cases c76_1 : q = 1
        ·
          refine G_tsIn C 115 (1) c76_1 dX11_run_76 (by decide) rfl rfl ?_
          refine G_goto C 162 dX11_run_115 rfl ?_
          refine G_aload_n (i := 0) C 163 dX11_run_162 rfl rfl rfl ?_
          refine G_callv 166 (G_runV C Kc_X11_lays KV_X11_218 (by omega) (by decide) (eM _ _ _) rfl (c_X11_lays 0 s70) rfl rfl rfl (Nat.le_of_ble_eq_true rfl) rfl dX11_run_163) rfl (fun s163 h163 => ?_)
          have fn_3 : Qn s s163 := Qn.tr fn_2 ((Fr.mono (m' := mK) h163.1 (fun k hk => by unfold mK; omega)).KR)
          have i_3 : mI TX nT n l P s163 := mI_lays (s1 := s) hI kp_1 i_2 (x_run_1 _ _ _) fk_2 h163.2 h163.1
          have fk_3 : Fr mK s s163 := Fr.tr fk_2 (h163.1.mono (fun k hk => by unfold mK; omega))
          refine G_iload C 168 dX11_run_166 rfl rfl ?_
          have e19 : x_one (q - 10) n = x_in q 10 x18 := by rw [Nx18, show (10 : Int32) = nI 10 from rfl]; exact (y_oneK (c := 10) hn6 (by omega) (by omega)).symm
          have hok : ¬ s_ruOk P m q = 0 := by unfold s_ruOk; rw [if_neg k54, if_pos k6, hxn, e19, if_neg k22]; first | decide | exact k38
          exact G_iret C dX11_run_168 (⟨RM_i hR i_3 fn_3, by unfold s_run; rw [if_neg hok, cum, if_neg c76, if_pos c76_1]; exact h70.2.2⟩)
        by_cases c76_2 : q = 2
        ·
          refine G_tsIn C 118 (2) c76_2 dX11_run_76 (by decide) rfl rfl ?_
          refine G_aload_n (i := 0) C 119 dX11_run_118 rfl rfl rfl ?_
          refine G_calli 122 (G_runV C Kc_X11_knownAll KV_X11_221 (by omega) (by decide) (eM _ _ _) rfl (c_X11_knownAll 0 TX nT n l (x_run TX um P) s70 i_2) rfl rfl rfl (Nat.le_of_ble_eq_true rfl) rfl dX11_run_119) rfl (fun x119 s119 h119 => ?_)
          obtain ⟨es119, h119⟩ := h119
          have es119 := es119.symm
          subst es119
          refine G_istore (L' := [some (.ref (e_ad E 0)), some (.int m), some (.int q), some (.int 1), some (.int x119)]) C 124 dX11_run_122 rfl (Nat.le_of_ble_eq_true rfl) rfl rfl ?_
          refine G_goto C 162 dX11_run_124 rfl ?_
          refine G_aload_n (i := 0) C 163 dX11_run_162 rfl rfl rfl ?_
          refine G_callv 166 (G_runV C Kc_X11_lays KV_X11_218 (by omega) (by decide) (eM _ _ _) rfl (c_X11_lays 0 s70) rfl rfl rfl (Nat.le_of_ble_eq_true rfl) rfl dX11_run_163) rfl (fun s163 h163 => ?_)
          have fn_3 : Qn s s163 := Qn.tr fn_2 ((Fr.mono (m' := mK) h163.1 (fun k hk => by unfold mK; omega)).KR)
          have i_3 : mI TX nT n l P s163 := mI_lays (s1 := s) hI kp_1 i_2 (x_run_1 _ _ _) fk_2 h163.2 h163.1
          have fk_3 : Fr mK s s163 := Fr.tr fk_2 (h163.1.mono (fun k hk => by unfold mK; omega))
          refine G_iload C 168 dX11_run_166 rfl rfl ?_
          have e19 : x_one (q - 10) n = x_in q 10 x18 := by rw [Nx18, show (10 : Int32) = nI 10 from rfl]; exact (y_oneK (c := 10) hn6 (by omega) (by omega)).symm
          have hok : ¬ s_ruOk P m q = 0 := by unfold s_ruOk; rw [if_neg k54, if_pos k6, hxn, e19, if_neg k22]; first | decide | exact k38
          exact G_iret C dX11_run_168 (⟨RM_i hR i_3 fn_3, by unfold s_run; rw [if_neg hok, cum, if_neg c76, if_neg c76_1, if_pos c76_2, hxn]; exact h119⟩)
        refine G_tsOut C 127 dX11_run_76 (by
          have e0 := g_ti (k := 0) 0 rfl c76
          have e1 := g_ti (k := 1) 1 rfl c76_1
          have e2 := g_ti (k := 2) 2 rfl c76_2
          omega) rfl ?_
        refine G_iload_n (i := 2) C 128 dX11_run_127 rfl rfl rfl ?_
        refine G_bipush (v := 20) C 130 dX11_run_128 rfl rfl ?_
        refine G_icmp_ge C 147 133 dX11_run_130 rfl rfl (fun c130 => ?_) (fun c130 => ?_)
        ·
          exfalso
          obtain ⟨z1, z2⟩ := x_inN.mp k22
          rw [Nx18] at z2
          have z3 := nI_of (x := q) (fun z => z1 (Int32.lt_trans z (by decide)))
          obtain ⟨j, hj, ej⟩ := z3
          rw [ej, nI_ltI (by omega) hj] at z2
          exact c130 (by rw [ej, show (20 : Int32) = nI 20 from rfl]; exact (nI_ltI hj (by omega)).mpr (by omega))
        ·
          have h10 : ¬ x_one (q - 10) n = 0 := by rw [show x_one (q - 10) n = x_in q 10 x18 from by rw [Nx18, show (10 : Int32) = nI 10 from rfl]; exact (y_oneK (c := 10) hn6 (by omega) (by omega)).symm]; exact k22
          obtain ⟨ux, hux, eux⟩ := x_oneT hn6 h10
          refine G_aload_n (i := 0) C 134 dX11_run_133 rfl rfl rfl ?_
          refine X11_16g C 137 dX11_run_134 rfl ?_
          refine G_iconst (v := 4) C 138 dX11_run_137 rfl rfl ?_
          refine G_iload_n (i := 2) C 139 dX11_run_138 rfl rfl rfl ?_
          refine G_bipush (v := 10) C 141 dX11_run_139 rfl rfl ?_
          refine G_isub C 142 dX11_run_141 rfl (fun x141 ex141 => ?_)
          have Nx141 : x141 = nI ux := (ex141.trans eux)
          refine G_imul C 143 dX11_run_142 rfl (fun x142 ex142 => ?_)
          have Nx142 : x142 = nI (4 * ux) := g_mulN ex142 rfl Nx141
          refine G_iald (n := 24) C 144 (by decide) (eMk (by decide) _ _ _) ((4 * ux)) Nx142 (by omega) (by decide) dX11_run_143 rfl (fun x143 ex143 => ?_)
          have Sx143 : x143 = (x_run TX um P) 2 ux := ex143.trans (congrFun (congrFun i_2.1 2) ux)
          refine G_goto C 160 dX11_run_144 rfl ?_
          refine G_istore (L' := [some (.ref (e_ad E 0)), some (.int m), some (.int q), some (.int 1), some (.int x143)]) C 162 dX11_run_160 rfl (Nat.le_of_ble_eq_true rfl) rfl rfl ?_
          refine G_aload_n (i := 0) C 163 dX11_run_162 rfl rfl rfl ?_
          refine G_callv 166 (G_runV C Kc_X11_lays KV_X11_218 (by omega) (by decide) (eM _ _ _) rfl (c_X11_lays 0 s70) rfl rfl rfl (Nat.le_of_ble_eq_true rfl) rfl dX11_run_163) rfl (fun s163 h163 => ?_)
          have fn_3 : Qn s s163 := Qn.tr fn_2 ((Fr.mono (m' := mK) h163.1 (fun k hk => by unfold mK; omega)).KR)
          have i_3 : mI TX nT n l P s163 := mI_lays (s1 := s) hI kp_1 i_2 (x_run_1 _ _ _) fk_2 h163.2 h163.1
          have fk_3 : Fr mK s s163 := Fr.tr fk_2 (h163.1.mono (fun k hk => by unfold mK; omega))
          refine G_iload C 168 dX11_run_166 rfl rfl ?_
          have e19 : x_one (q - 10) n = x_in q 10 x18 := by rw [Nx18, show (10 : Int32) = nI 10 from rfl]; exact (y_oneK (c := 10) hn6 (by omega) (by omega)).symm
          have hok : ¬ s_ruOk P m q = 0 := by unfold s_ruOk; rw [if_neg k54, if_pos k6, hxn, e19, if_neg k22]; first | decide | exact k38
          exact G_iret C dX11_run_168 (⟨RM_i hR i_3 fn_3, by unfold s_run; rw [if_neg hok, cum, if_neg c76, if_neg c76_1, if_neg c76_2, hxn, if_neg h10, ← ex141, Nx141, nI_clamp (by omega)]; exact Sx143⟩)
    ·
      have k22 := h19.symm.trans c22
      refine G_iload_n (i := 2) C 26 dX11_run_25 rfl rfl rfl ?_
      refine G_bipush (v := 20) C 28 dX11_run_26 rfl rfl ?_
      refine G_bipush (v := 19) C 30 dX11_run_28 rfl rfl ?_
      refine G_aload_n (i := 0) C 31 dX11_run_30 rfl rfl rfl ?_
      refine X11_75g C 34 dX11_run_31 rfl (fun x31 ex31 => ?_)
      have Sx31 : x31 = nI n := ex31.trans (mI_n i)
      refine G_iadd C 35 dX11_run_34 rfl (fun x34 ex34 => ?_)
      have Nx34 : x34 = nI (19 + n) := g_addN ex34 rfl Sx31
      refine G_calli 38 (G_runS C Kc_X11_in KS_X11_78 (by omega) (c_X11_in 0 q 20 x34 s) rfl rfl (Nat.le_of_ble_eq_true rfl) rfl dX11_run_35) rfl (fun x35 s35 h35 => ?_)
      obtain ⟨es35, h35⟩ := h35
      have es35 := es35.symm
      subst es35
      refine G_if_eq C 45 41 dX11_run_38 rfl rfl (fun c38 => ?_) (fun c38 => ?_)
      ·
        have k38 := h35.symm.trans c38
        refine G_iconst (v := 0) C 46 dX11_run_45 rfl rfl ?_
        refine G_istore_n (i := 3) (L' := [some (.ref (e_ad E 0)), some (.int m), some (.int q), some (.int 0), none]) C 47 dX11_run_46 rfl rfl (Nat.le_of_ble_eq_true rfl) rfl rfl ?_
        refine G_iload_n (i := 1) C 48 dX11_run_47 rfl rfl rfl ?_
        refine G_iconst (v := 0) C 49 dX11_run_48 rfl rfl ?_
        refine G_bipush (v := 40) C 51 dX11_run_49 rfl rfl ?_
        refine G_calli 54 (G_runS C Kc_X11_in KS_X11_78 (by omega) (c_X11_in 0 m 0 40 s) rfl rfl (Nat.le_of_ble_eq_true rfl) rfl dX11_run_51) rfl (fun x51 s51 h51 => ?_)
        obtain ⟨es51, h51⟩ := h51
        have es51 := es51.symm
        subst es51
        refine G_if_eq C 61 57 dX11_run_54 rfl rfl (fun c54 => ?_) (fun c54 => ?_)
        ·
          have k54 := h51.symm.trans c54
          refine G_bipush (v := (-2)) C 63 dX11_run_61 rfl rfl ?_
          exact G_iret C dX11_run_63 (⟨⟨nT, n, l, hR⟩, by unfold s_run s_ruOk; rw [if_pos k54, if_pos rfl]⟩)
        ·
          have k54 := g_neT h51 c54
          obtain ⟨um, hum, eum⟩ := x_inR (b := 40) k54 rfl (by decide)
          have cum : m.toNatClampNeg = um := by rw [eum, nI_clamp (by omega)]
          refine G_iload_n (i := 3) C 58 dX11_run_57 rfl rfl rfl ?_
          refine G_if_ne C 64 61 dX11_run_58 rfl rfl (fun c => absurd c (by decide)) (fun _ => ?_)
          refine G_bipush (v := (-2)) C 63 dX11_run_61 rfl rfl ?_
          have e19 : x_one (q - 10) n = x_in q 10 x18 := by rw [Nx18, show (10 : Int32) = nI 10 from rfl]; exact (y_oneK (c := 10) hn6 (by omega) (by omega)).symm
          have e35 : x_one (q - 20) n = x_in q 20 x34 := by rw [Nx34, show (20 : Int32) = nI 20 from rfl]; exact (y_oneK (c := 20) hn6 (by omega) (by omega)).symm
          exact G_iret C dX11_run_63 (⟨⟨nT, n, l, hR⟩, by unfold s_run; rw [if_pos (by unfold s_ruOk; rw [if_neg k54, if_pos k6, hxn, e19, if_pos k22, e35]; exact k38)]⟩)
      ·
        have k38 := g_neT h35 c38
        refine G_iconst (v := 1) C 42 dX11_run_41 rfl rfl ?_
        refine G_goto C 46 dX11_run_42 rfl ?_
        refine G_istore_n (i := 3) (L' := [some (.ref (e_ad E 0)), some (.int m), some (.int q), some (.int 1), none]) C 47 dX11_run_46 rfl rfl (Nat.le_of_ble_eq_true rfl) rfl rfl ?_
        refine G_iload_n (i := 1) C 48 dX11_run_47 rfl rfl rfl ?_
        refine G_iconst (v := 0) C 49 dX11_run_48 rfl rfl ?_
        refine G_bipush (v := 40) C 51 dX11_run_49 rfl rfl ?_
        refine G_calli 54 (G_runS C Kc_X11_in KS_X11_78 (by omega) (c_X11_in 0 m 0 40 s) rfl rfl (Nat.le_of_ble_eq_true rfl) rfl dX11_run_51) rfl (fun x51 s51 h51 => ?_)
        obtain ⟨es51, h51⟩ := h51
        have es51 := es51.symm
        subst es51
        refine G_if_eq C 61 57 dX11_run_54 rfl rfl (fun c54 => ?_) (fun c54 => ?_)
        ·
          have k54 := h51.symm.trans c54
          refine G_bipush (v := (-2)) C 63 dX11_run_61 rfl rfl ?_
          exact G_iret C dX11_run_63 (⟨⟨nT, n, l, hR⟩, by unfold s_run s_ruOk; rw [if_pos k54, if_pos rfl]⟩)
        ·
          have k54 := g_neT h51 c54
          obtain ⟨um, hum, eum⟩ := x_inR (b := 40) k54 rfl (by decide)
          have cum : m.toNatClampNeg = um := by rw [eum, nI_clamp (by omega)]
          refine G_iload_n (i := 3) C 58 dX11_run_57 rfl rfl rfl ?_
          refine G_if_ne C 64 61 dX11_run_58 rfl rfl (fun _ => ?_) (fun c => absurd c (by decide))
          refine G_aload_n (i := 0) C 65 dX11_run_64 rfl rfl rfl ?_
          refine G_callv 68 (G_runV C Kc_X11_keeps KV_X11_212 (by omega) (by decide) (eM _ _ _) rfl (c_X11_keeps 0 s) rfl rfl rfl (Nat.le_of_ble_eq_true rfl) rfl dX11_run_65) rfl (fun s65 h65 => ?_)
          have fn_1 : Qn s s65 := Qn.tr fn ((Fr.mono (m' := mK) h65.1 (fun k hk => by unfold mK; omega)).KR)
          have i_1 : mI TX nT n l P s65 := mI_kp i h65.1
          have fk_1 : Fr mK s s65 := Fr.tr fk (h65.1.mono (fun k hk => by unfold mK; omega))
          have kp1 : kp s s65 := h65.2
          refine G_aload_n (i := 0) C 69 dX11_run_68 rfl rfl rfl ?_
          refine G_iload_n (i := 1) C 70 dX11_run_69 rfl rfl rfl ?_
          refine G_calli 73 (G_runV C Kc_X11_goes KV_X11_215 (by omega) (by decide) (eM _ _ _) rfl (c_X11_goes 0 TX nT n l P s65 i_1 m um eum (by omega)) rfl rfl rfl (Nat.le_of_ble_eq_true rfl) rfl dX11_run_70) rfl (fun x70 s70 h70 => ?_)
          have fn_2 : Qn s s70 := Qn.tr fn_1 (h70.1.HR)
          have i_2 : mI TX nT n l (x_run TX um P) s70 := h70.2.1
          have kp_1 : kp s s70 := kp_fr kp1 h70.1 (by unfold mH; omega)
          have fk_2 : Fr mK s s70 := Fr.tr fk_1 h70.1.HK
          refine G_istore (L' := [some (.ref (e_ad E 0)), some (.int m), some (.int q), some (.int 1), some (.int x70)]) C 75 dX11_run_73 rfl (Nat.le_of_ble_eq_true rfl) rfl rfl ?_
          refine G_iload_n (i := 2) C 76 dX11_run_75 rfl rfl rfl ?_
          by_cases c76 : q = 0
          ·
            refine G_tsIn C 104 (0) c76 dX11_run_76 (by decide) rfl rfl ?_
            refine G_aload_n (i := 0) C 105 dX11_run_104 rfl rfl rfl ?_
            refine X11_19g C 108 dX11_run_105 rfl ?_
            refine G_iconst (v := 2) C 109 dX11_run_108 rfl rfl ?_
            refine G_iald (n := 13) C 110 (by decide) (eMk (by decide) _ _ _) (2) rfl (by omega) (by decide) dX11_run_109 rfl (fun x109 ex109 => ?_)
            have Sx109 : x109 = (x_run TX um P) 0 2 := ex109.trans (mI_v i_2 0 2)
            obtain ⟨mx109, hmx109, emx109⟩ := i_2.2.1.2.2.2.2.2.2.2.1
            refine G_istore (L' := [some (.ref (e_ad E 0)), some (.int m), some (.int q), some (.int 1), some (.int x109)]) C 112 dX11_run_110 rfl (Nat.le_of_ble_eq_true rfl) rfl rfl ?_
            refine G_goto C 162 dX11_run_112 rfl ?_
            refine G_aload_n (i := 0) C 163 dX11_run_162 rfl rfl rfl ?_
            refine G_callv 166 (G_runV C Kc_X11_lays KV_X11_218 (by omega) (by decide) (eM _ _ _) rfl (c_X11_lays 0 s70) rfl rfl rfl (Nat.le_of_ble_eq_true rfl) rfl dX11_run_163) rfl (fun s163 h163 => ?_)
            have fn_3 : Qn s s163 := Qn.tr fn_2 ((Fr.mono (m' := mK) h163.1 (fun k hk => by unfold mK; omega)).KR)
            have i_3 : mI TX nT n l P s163 := mI_lays (s1 := s) hI kp_1 i_2 (x_run_1 _ _ _) fk_2 h163.2 h163.1
            have fk_3 : Fr mK s s163 := Fr.tr fk_2 (h163.1.mono (fun k hk => by unfold mK; omega))
            refine G_iload C 168 dX11_run_166 rfl rfl ?_
            have e19 : x_one (q - 10) n = x_in q 10 x18 := by rw [Nx18, show (10 : Int32) = nI 10 from rfl]; exact (y_oneK (c := 10) hn6 (by omega) (by omega)).symm
            have e35 : x_one (q - 20) n = x_in q 20 x34 := by rw [Nx34, show (20 : Int32) = nI 20 from rfl]; exact (y_oneK (c := 20) hn6 (by omega) (by omega)).symm
            have hok : ¬ s_ruOk P m q = 0 := by unfold s_ruOk; rw [if_neg k54, if_pos k6, hxn, e19, if_pos k22, e35]; first | decide | exact k38
            exact G_iret C dX11_run_168 (⟨RM_i hR i_3 fn_3, by unfold s_run; rw [if_neg hok, cum, if_pos c76]; exact Sx109⟩)
          by_cases c76_1 : q = 1
          ·
            refine G_tsIn C 115 (1) c76_1 dX11_run_76 (by decide) rfl rfl ?_
            refine G_goto C 162 dX11_run_115 rfl ?_
            refine G_aload_n (i := 0) C 163 dX11_run_162 rfl rfl rfl ?_
            refine G_callv 166 (G_runV C Kc_X11_lays KV_X11_218 (by omega) (by decide) (eM _ _ _) rfl (c_X11_lays 0 s70) rfl rfl rfl (Nat.le_of_ble_eq_true rfl) rfl dX11_run_163) rfl (fun s163 h163 => ?_)
            have fn_3 : Qn s s163 := Qn.tr fn_2 ((Fr.mono (m' := mK) h163.1 (fun k hk => by unfold mK; omega)).KR)
            have i_3 : mI TX nT n l P s163 := mI_lays (s1 := s) hI kp_1 i_2 (x_run_1 _ _ _) fk_2 h163.2 h163.1
            have fk_3 : Fr mK s s163 := Fr.tr fk_2 (h163.1.mono (fun k hk => by unfold mK; omega))
            refine G_iload C 168 dX11_run_166 rfl rfl ?_
            have e19 : x_one (q - 10) n = x_in q 10 x18 := by rw [Nx18, show (10 : Int32) = nI 10 from rfl]; exact (y_oneK (c := 10) hn6 (by omega) (by omega)).symm
            have e35 : x_one (q - 20) n = x_in q 20 x34 := by rw [Nx34, show (20 : Int32) = nI 20 from rfl]; exact (y_oneK (c := 20) hn6 (by omega) (by omega)).symm
            have hok : ¬ s_ruOk P m q = 0 := by unfold s_ruOk; rw [if_neg k54, if_pos k6, hxn, e19, if_pos k22, e35]; first | decide | exact k38
            exact G_iret C dX11_run_168 (⟨RM_i hR i_3 fn_3, by unfold s_run; rw [if_neg hok, cum, if_neg c76, if_pos c76_1]; exact h70.2.2⟩)
          by_cases c76_2 : q = 2
          ·
            refine G_tsIn C 118 (2) c76_2 dX11_run_76 (by decide) rfl rfl ?_
            refine G_aload_n (i := 0) C 119 dX11_run_118 rfl rfl rfl ?_
            refine G_calli 122 (G_runV C Kc_X11_knownAll KV_X11_221 (by omega) (by decide) (eM _ _ _) rfl (c_X11_knownAll 0 TX nT n l (x_run TX um P) s70 i_2) rfl rfl rfl (Nat.le_of_ble_eq_true rfl) rfl dX11_run_119) rfl (fun x119 s119 h119 => ?_)
            obtain ⟨es119, h119⟩ := h119
            have es119 := es119.symm
            subst es119
            refine G_istore (L' := [some (.ref (e_ad E 0)), some (.int m), some (.int q), some (.int 1), some (.int x119)]) C 124 dX11_run_122 rfl (Nat.le_of_ble_eq_true rfl) rfl rfl ?_
            refine G_goto C 162 dX11_run_124 rfl ?_
            refine G_aload_n (i := 0) C 163 dX11_run_162 rfl rfl rfl ?_
            refine G_callv 166 (G_runV C Kc_X11_lays KV_X11_218 (by omega) (by decide) (eM _ _ _) rfl (c_X11_lays 0 s70) rfl rfl rfl (Nat.le_of_ble_eq_true rfl) rfl dX11_run_163) rfl (fun s163 h163 => ?_)
            have fn_3 : Qn s s163 := Qn.tr fn_2 ((Fr.mono (m' := mK) h163.1 (fun k hk => by unfold mK; omega)).KR)
            have i_3 : mI TX nT n l P s163 := mI_lays (s1 := s) hI kp_1 i_2 (x_run_1 _ _ _) fk_2 h163.2 h163.1
            have fk_3 : Fr mK s s163 := Fr.tr fk_2 (h163.1.mono (fun k hk => by unfold mK; omega))
            refine G_iload C 168 dX11_run_166 rfl rfl ?_
            have e19 : x_one (q - 10) n = x_in q 10 x18 := by rw [Nx18, show (10 : Int32) = nI 10 from rfl]; exact (y_oneK (c := 10) hn6 (by omega) (by omega)).symm
            have e35 : x_one (q - 20) n = x_in q 20 x34 := by rw [Nx34, show (20 : Int32) = nI 20 from rfl]; exact (y_oneK (c := 20) hn6 (by omega) (by omega)).symm
            have hok : ¬ s_ruOk P m q = 0 := by unfold s_ruOk; rw [if_neg k54, if_pos k6, hxn, e19, if_pos k22, e35]; first | decide | exact k38
            exact G_iret C dX11_run_168 (⟨RM_i hR i_3 fn_3, by unfold s_run; rw [if_neg hok, cum, if_neg c76, if_neg c76_1, if_pos c76_2, hxn]; exact h119⟩)
          refine G_tsOut C 127 dX11_run_76 (by
            have e0 := g_ti (k := 0) 0 rfl c76
            have e1 := g_ti (k := 1) 1 rfl c76_1
            have e2 := g_ti (k := 2) 2 rfl c76_2
            omega) rfl ?_
          refine G_iload_n (i := 2) C 128 dX11_run_127 rfl rfl rfl ?_
          refine G_bipush (v := 20) C 130 dX11_run_128 rfl rfl ?_
          refine G_icmp_ge C 147 133 dX11_run_130 rfl rfl (fun c130 => ?_) (fun c130 => ?_)
          ·
            have h10 : x_one (q - 10) n = 0 := by rw [show x_one (q - 10) n = x_in q 10 x18 from by rw [Nx18, show (10 : Int32) = nI 10 from rfl]; exact (y_oneK (c := 10) hn6 (by omega) (by omega)).symm]; exact k22
            have h20 : ¬ x_one (q - 20) n = 0 := by rw [show x_one (q - 20) n = x_in q 20 x34 from by rw [Nx34, show (20 : Int32) = nI 20 from rfl]; exact (y_oneK (c := 20) hn6 (by omega) (by omega)).symm]; exact k38
            obtain ⟨ux, hux, eux⟩ := x_oneT hn6 h20
            refine G_aload_n (i := 0) C 148 dX11_run_147 rfl rfl rfl ?_
            refine X11_16g C 151 dX11_run_148 rfl ?_
            refine G_iconst (v := 4) C 152 dX11_run_151 rfl rfl ?_
            refine G_iload_n (i := 2) C 153 dX11_run_152 rfl rfl rfl ?_
            refine G_bipush (v := 20) C 155 dX11_run_153 rfl rfl ?_
            refine G_isub C 156 dX11_run_155 rfl (fun x155 ex155 => ?_)
            have Nx155 : x155 = nI ux := (ex155.trans eux)
            refine G_imul C 157 dX11_run_156 rfl (fun x156 ex156 => ?_)
            have Nx156 : x156 = nI (4 * ux) := g_mulN ex156 rfl Nx155
            refine G_iconst (v := 2) C 158 dX11_run_157 rfl rfl ?_
            refine G_iadd C 159 dX11_run_158 rfl (fun x158 ex158 => ?_)
            have Nx158 : x158 = nI ((4 * ux) + 2) := g_addN ex158 Nx156 rfl
            refine G_iald (n := 24) C 160 (by decide) (eMk (by decide) _ _ _) (((4 * ux) + 2)) Nx158 (by omega) (by decide) dX11_run_159 rfl (fun x159 ex159 => ?_)
            have Sx159 : x159 = (x_run TX um P) 4 ux := ex159.trans (congrFun (congrFun i_2.1 4) ux)
            obtain ⟨mx159, hmx159, emx159⟩ := (mI_p i_2 (p := ux) (by omega)).2.2
            refine G_istore (L' := [some (.ref (e_ad E 0)), some (.int m), some (.int q), some (.int 1), some (.int x159)]) C 162 dX11_run_160 rfl (Nat.le_of_ble_eq_true rfl) rfl rfl ?_
            refine G_aload_n (i := 0) C 163 dX11_run_162 rfl rfl rfl ?_
            refine G_callv 166 (G_runV C Kc_X11_lays KV_X11_218 (by omega) (by decide) (eM _ _ _) rfl (c_X11_lays 0 s70) rfl rfl rfl (Nat.le_of_ble_eq_true rfl) rfl dX11_run_163) rfl (fun s163 h163 => ?_)
            have fn_3 : Qn s s163 := Qn.tr fn_2 ((Fr.mono (m' := mK) h163.1 (fun k hk => by unfold mK; omega)).KR)
            have i_3 : mI TX nT n l P s163 := mI_lays (s1 := s) hI kp_1 i_2 (x_run_1 _ _ _) fk_2 h163.2 h163.1
            have fk_3 : Fr mK s s163 := Fr.tr fk_2 (h163.1.mono (fun k hk => by unfold mK; omega))
            refine G_iload C 168 dX11_run_166 rfl rfl ?_
            have e19 : x_one (q - 10) n = x_in q 10 x18 := by rw [Nx18, show (10 : Int32) = nI 10 from rfl]; exact (y_oneK (c := 10) hn6 (by omega) (by omega)).symm
            have e35 : x_one (q - 20) n = x_in q 20 x34 := by rw [Nx34, show (20 : Int32) = nI 20 from rfl]; exact (y_oneK (c := 20) hn6 (by omega) (by omega)).symm
            have hok : ¬ s_ruOk P m q = 0 := by unfold s_ruOk; rw [if_neg k54, if_pos k6, hxn, e19, if_pos k22, e35]; first | decide | exact k38
            exact G_iret C dX11_run_168 (⟨RM_i hR i_3 fn_3, by unfold s_run; rw [if_neg hok, cum, if_neg c76, if_neg c76_1, if_neg c76_2, hxn, if_pos h10, ← ex155, Nx155, nI_clamp (by omega)]; exact Sx159⟩)
          ·
            exfalso
            obtain ⟨z1, z2⟩ := x_inN.mp k38
            exact z1 c130
