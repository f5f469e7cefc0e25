theorem dX11_film_0 : decode cX11_film 0 = .ok (.iload_n 1, 1) := by decide +kernel
theorem dX11_film_1 : decode cX11_film 1 = .ok (.iconst 0, 1) := by decide +kernel
theorem dX11_film_2 : decode cX11_film 2 = .ok (.iconst 3, 1) := by decide +kernel
theorem dX11_film_3 : decode cX11_film 3 = .ok (.invokestatic 78, 3) := by decide +kernel
theorem dX11_film_6 : decode cX11_film 6 = .ok (.ifCond .ne 6, 3) := by decide +kernel
theorem dX11_film_9 : decode cX11_film 9 = .ok (.bipush (-2), 2) := by decide +kernel
theorem dX11_film_11 : decode cX11_film 11 = .ok (.ireturn, 1) := by decide +kernel
theorem dX11_film_12 : decode cX11_film 12 = .ok (.iload_n 2, 1) := by decide +kernel
theorem dX11_film_13 : decode cX11_film 13 = .ok (.iconst 0, 1) := by decide +kernel
theorem dX11_film_14 : decode cX11_film 14 = .ok (.bipush 20, 2) := by decide +kernel
theorem dX11_film_16 : decode cX11_film 16 = .ok (.invokestatic 78, 3) := by decide +kernel
theorem dX11_film_19 : decode cX11_film 19 = .ok (.ifCond .ne 6, 3) := by decide +kernel
theorem dX11_film_22 : decode cX11_film 22 = .ok (.bipush (-7), 2) := by decide +kernel
theorem dX11_film_24 : decode cX11_film 24 = .ok (.ireturn, 1) := by decide +kernel
theorem dX11_film_25 : decode cX11_film 25 = .ok (.aload_n 0, 1) := by decide +kernel
theorem dX11_film_26 : decode cX11_film 26 = .ok (.getfield 37, 3) := by decide +kernel
theorem dX11_film_29 : decode cX11_film 29 = .ok (.iload_n 1, 1) := by decide +kernel
theorem dX11_film_30 : decode cX11_film 30 = .ok (.iconst 0, 1) := by decide +kernel
theorem dX11_film_31 : decode cX11_film 31 = .ok (.iastore, 1) := by decide +kernel
theorem dX11_film_32 : decode cX11_film 32 = .ok (.aload_n 0, 1) := by decide +kernel
theorem dX11_film_33 : decode cX11_film 33 = .ok (.getfield 40, 3) := by decide +kernel
theorem dX11_film_36 : decode cX11_film 36 = .ok (.iload_n 1, 1) := by decide +kernel
theorem dX11_film_37 : decode cX11_film 37 = .ok (.iload_n 2, 1) := by decide +kernel
theorem dX11_film_38 : decode cX11_film 38 = .ok (.iastore, 1) := by decide +kernel
theorem dX11_film_39 : decode cX11_film 39 = .ok (.aload_n 0, 1) := by decide +kernel
theorem dX11_film_40 : decode cX11_film 40 = .ok (.invokevirtual 212, 3) := by decide +kernel
theorem dX11_film_43 : decode cX11_film 43 = .ok (.iconst 0, 1) := by decide +kernel
theorem dX11_film_44 : decode cX11_film 44 = .ok (.istore_n 3, 1) := by decide +kernel
theorem dX11_film_45 : decode cX11_film 45 = .ok (.iload_n 3, 1) := by decide +kernel
theorem dX11_film_46 : decode cX11_film 46 = .ok (.bipush 40, 2) := by decide +kernel
theorem dX11_film_48 : decode cX11_film 48 = .ok (.if_icmp .ge 35, 3) := by decide +kernel
theorem dX11_film_51 : decode cX11_film 51 = .ok (.aload_n 0, 1) := by decide +kernel
theorem dX11_film_52 : decode cX11_film 52 = .ok (.getfield 43, 3) := by decide +kernel
theorem dX11_film_55 : decode cX11_film 55 = .ok (.bipush 40, 2) := by decide +kernel
theorem dX11_film_57 : decode cX11_film 57 = .ok (.iload_n 1, 1) := by decide +kernel
theorem dX11_film_58 : decode cX11_film 58 = .ok (.imul, 1) := by decide +kernel
theorem dX11_film_59 : decode cX11_film 59 = .ok (.iload_n 3, 1) := by decide +kernel
theorem dX11_film_60 : decode cX11_film 60 = .ok (.iadd, 1) := by decide +kernel
theorem dX11_film_61 : decode cX11_film 61 = .ok (.iload_n 3, 1) := by decide +kernel
theorem dX11_film_62 : decode cX11_film 62 = .ok (.iload_n 2, 1) := by decide +kernel
theorem dX11_film_63 : decode cX11_film 63 = .ok (.if_icmp .ge 12, 3) := by decide +kernel
theorem dX11_film_66 : decode cX11_film 66 = .ok (.aload_n 0, 1) := by decide +kernel
theorem dX11_film_67 : decode cX11_film 67 = .ok (.invokevirtual 209, 3) := by decide +kernel
theorem dX11_film_70 : decode cX11_film 70 = .ok (.iconst 1, 1) := by decide +kernel
theorem dX11_film_71 : decode cX11_film 71 = .ok (.iadd, 1) := by decide +kernel
theorem dX11_film_72 : decode cX11_film 72 = .ok (.goto 4, 3) := by decide +kernel
theorem dX11_film_75 : decode cX11_film 75 = .ok (.iconst 0, 1) := by decide +kernel
theorem dX11_film_76 : decode cX11_film 76 = .ok (.iastore, 1) := by decide +kernel
theorem dX11_film_77 : decode cX11_film 77 = .ok (.iinc 3 1, 3) := by decide +kernel
theorem dX11_film_80 : decode cX11_film 80 = .ok (.goto (-35), 3) := by decide +kernel
theorem dX11_film_83 : decode cX11_film 83 = .ok (.aload_n 0, 1) := by decide +kernel
theorem dX11_film_84 : decode cX11_film 84 = .ok (.invokevirtual 218, 3) := by decide +kernel
theorem dX11_film_87 : decode cX11_film 87 = .ok (.iload_n 2, 1) := by decide +kernel
theorem dX11_film_88 : decode cX11_film 88 = .ok (.ireturn, 1) := by decide +kernel
set_option maxHeartbeats 4000000 in
set_option maxRecDepth 100000 in
theorem c_X11_film (d : Nat) (TX : gTX) (P B s : gS) (hR0 : RM TX P B s) (t m : Int32) : gMt SM yX11_film cX11_film 4 (some .int) (d + 10) (fun ad => [.ref (ad 0), .int t, .int m]) s (gQi SM (fun r s' => RM TX P (s_fiB TX P B t m) s' ∧ r = s_fiR t m)) := by
  obtain ⟨nT, n, l, hR⟩ := hR0
  have hI := hR.1
  have hn6 : n ≤ 6 := hI.2.1.2.1
  have hl6 : l < 6 := mI_l6 hI
  have hxn : x_n P = n := x_nOf hI.2.1.1 hn6
  have hbI := hR.2.2
  have hnT6 : nT ≤ 6 := hI.2.1.2.2.2.2.1
  obtain ⟨tn0, htn0, etn0⟩ := hbI.2.1
  refine gMt_of SM_ok (by decide +kernel) (fun ad => [some (.ref (ad 0)), some (.int t), some (.int m), none]) (fun _ => rfl) (fun _ => rfl) (fun _ => Nat.le_of_ble_eq_true rfl) (fun E C0 => ?_)
  have C : gCx SM E RX11 cX11_film 4 (some .int) (d + 10) := C0
  have fz : Fr mF s s := Fr.rf
  have i : mI TX nT n l P s := hI
  refine G_iload_n (i := 1) C 1 dX11_film_0 rfl rfl rfl ?_
  refine G_iconst (v := 0) C 2 dX11_film_1 rfl rfl ?_
  refine G_iconst (v := 3) C 3 dX11_film_2 rfl rfl ?_
  refine G_calli 6 (G_runS C Kc_X11_in KS_X11_78 (by omega) (c_X11_in 0 t 0 3 s) rfl rfl (Nat.le_of_ble_eq_true rfl) rfl dX11_film_3) rfl (fun x3 s3 h3 => ?_)
  obtain ⟨es3, h3⟩ := h3
  have es3 := es3.symm
  subst es3
  refine G_if_ne C 12 9 dX11_film_6 rfl rfl (fun c6 => ?_) (fun c6 => ?_)
  ·
    have k6 := g_neT h3 c6
    obtain ⟨ut, hut, eut⟩ := x_inR (b := 3) k6 rfl (by decide)
    have cut : t.toNatClampNeg = ut := by rw [eut, nI_clamp (by omega)]
    refine G_iload_n (i := 2) C 13 dX11_film_12 rfl rfl rfl ?_
    refine G_iconst (v := 0) C 14 dX11_film_13 rfl rfl ?_
    refine G_bipush (v := 20) C 16 dX11_film_14 rfl rfl ?_
    refine G_calli 19 (G_runS C Kc_X11_in KS_X11_78 (by omega) (c_X11_in 0 m 0 20 s) rfl rfl (Nat.le_of_ble_eq_true rfl) rfl dX11_film_16) rfl (fun x16 s16 h16 => ?_)
    obtain ⟨es16, h16⟩ := h16
    have es16 := es16.symm
    subst es16
    refine G_if_ne C 25 22 dX11_film_19 rfl rfl (fun c19 => ?_) (fun c19 => ?_)
    ·
      have k19 := g_neT h16 c19
      obtain ⟨um, hum, eum⟩ := x_inR (b := 20) k19 rfl (by decide)
      have cum : m.toNatClampNeg = um := by rw [eum, nI_clamp (by omega)]
      have no : ∀ i, (∀ j, j < 40 → i ≠ 40 * ut + j) → s 12 i = s 12 i := fun _ _ => rfl
      refine G_aload_n (i := 0) C 26 dX11_film_25 rfl rfl rfl ?_
      refine X11_37g C 29 dX11_film_26 rfl ?_
      refine G_iload_n (i := 1) C 30 dX11_film_29 rfl rfl rfl ?_
      refine G_iconst (v := 0) C 31 dX11_film_30 rfl rfl ?_
      refine G_iast (n := 4) C 32 (by decide) (fun σ => eMk (by decide) _ _ σ) (ut) eut (by omega) (by decide) (Nat.le_refl _) dX11_film_31 rfl (fun s31 es31 => ?_)
      have fz_1 : Fr mF s s31 := Fr.tr fz (Fr.up es31 (by unfold mF mK; omega))
      have i_1 : mI TX nT n l P s31 := mI_f (m := fun q => q = 10) i (Fr.up es31 rfl) (by decide) (by decide) (by decide) (by decide) (by decide) (by decide) (by decide)
      have no_1 : ∀ i, (∀ j, j < 40 → i ≠ 40 * ut + j) → s31 12 i = s 12 i := by rw [es31, g_up_n (by decide)]; exact no
      have ca : s31 10 = upd (s 10) ut 0 := by rw [es31]; exact g_set_s _ _ _
      refine G_aload_n (i := 0) C 33 dX11_film_32 rfl rfl rfl ?_
      refine X11_40g C 36 dX11_film_33 rfl ?_
      refine G_iload_n (i := 1) C 37 dX11_film_36 rfl rfl rfl ?_
      refine G_iload_n (i := 2) C 38 dX11_film_37 rfl rfl rfl ?_
      refine G_iast (n := 4) C 39 (by decide) (fun σ => eMk (by decide) _ _ σ) (ut) eut (by omega) (by decide) (Nat.le_refl _) dX11_film_38 rfl (fun s38 es38 => ?_)
      have fz_2 : Fr mF s s38 := Fr.tr fz_1 (Fr.up es38 (by unfold mF mK; omega))
      have i_2 : mI TX nT n l P s38 := mI_f (m := fun q => q = 11) i_1 (Fr.up es38 rfl) (by decide) (by decide) (by decide) (by decide) (by decide) (by decide) (by decide)
      have ca_1 : s38 10 = upd (s 10) ut 0 := by rw [es38, g_up_n (by decide)]; exact ca
      have no_2 : ∀ i, (∀ j, j < 40 → i ≠ 40 * ut + j) → s38 12 i = s 12 i := by rw [es38, g_up_n (by decide)]; exact no_1
      have cb : s38 11 = upd (s 11) ut m := by rw [es38]; unfold g_up; rw [g_set_s, es31, g_up_n (by decide)]
      have hI2 : mI TX nT n l P s38 := i_2
      have qk : Qk s38 s38 := Qk.rf
      refine G_aload_n (i := 0) C 40 dX11_film_39 rfl rfl rfl ?_
      refine G_callv 43 (G_runV C Kc_X11_keeps KV_X11_212 (by omega) (by decide) (eM _ _ _) rfl (c_X11_keeps 0 s38) rfl rfl rfl (Nat.le_of_ble_eq_true rfl) rfl dX11_film_40) rfl (fun s40 h40 => ?_)
      have fz_3 : Fr mF s s40 := Fr.tr fz_2 (h40.1.mono (fun k hk => by unfold mF mK; omega))
      have i_3 : mI TX nT n l P s40 := mI_kp i_2 h40.1
      have qk_1 : Qk s38 s40 := Qk.tr qk (Qk.fr h40.1 (by decide) (by decide) (by decide) (by decide) (by decide))
      have ca_2 : s40 10 = upd (s 10) ut 0 := (h40.1 10 (by decide)).trans ca_1
      have cb_1 : s40 11 = upd (s 11) ut m := (h40.1 11 (by decide)).trans cb
      have no_3 : ∀ i, (∀ j, j < 40 → i ≠ 40 * ut + j) → s40 12 i = s 12 i := by rw [h40.1 12 (by decide)]; exact no_2
      have kp1 : kp s38 s40 := h40.2
      have nu : ∀ j, j < 0 → s40 12 (40 * ut + j) = x_film TX P um j := fun j hj => absurd hj (by omega)
      refine G_iconst (v := 0) C 44 dX11_film_43 rfl rfl ?_
      refine G_istore_n (i := 3) (L' := [some (.ref (e_ad E 0)), some (.int t), some (.int m), some (.int 0)]) C 45 dX11_film_44 rfl rfl (Nat.le_of_ble_eq_true rfl) rfl rfl ?_
      have L45 : ∀ (f45 : Nat) (k : Nat) (y : Int32) (sl45 : gS) (Ey : y = nI k) (hk : k ≤ 40) (fzl45 : Fr mF s sl45) (il45 : mI TX nT n l (x_run TX (min k um) P) sl45) (kpl45 : kp s38 sl45) (qkl45 : Qk s38 sl45) (cal45 : sl45 10 = upd (s 10) ut 0) (cbl45 : sl45 11 = upd (s 11) ut m) (nul45 : ∀ j, j < k → sl45 12 (40 * ut + j) = x_film TX P um j) (nol45 : ∀ i, (∀ j, j < 40 → i ≠ 40 * ut + j) → sl45 12 i = s 12 i), 40 < k + f45 → GW SM E (gFin SM E (gQi SM (fun r s' => RM TX P (s_fiB TX P B t m) s' ∧ r = s_fiR t m))) 45 [some (.ref (e_ad E 0)), some (.int t), some (.int m), some (.int y)] [] sl45 := by
        intro f45
        induction f45 with
        | zero =>
          intro k y sl45 Ey hk fzl45 il45 kpl45 qkl45 cal45 cbl45 nul45 nol45 hf45
          exact absurd hf45 (by omega)
        | succ f45 ih45 =>
          intro k y sl45 Ey hk fzl45 il45 kpl45 qkl45 cal45 cbl45 nul45 nol45 hf45
          refine G_iload_n (i := 3) C 46 dX11_film_45 rfl rfl rfl ?_
          refine G_bipush (v := 40) C 48 dX11_film_46 rfl rfl ?_
          refine G_icmp_ge C 83 51 dX11_film_48 rfl rfl (fun c48 => ?_) (fun c48 => ?_)
          ·
            have n48 : ¬ k < 40 := fun h => c48 ((g_ltN (a := k) (b := 40) (hx := Ey) (hy := rfl) (by omega) (by omega)).mpr h)
            refine G_aload_n (i := 0) C 84 dX11_film_83 rfl rfl rfl ?_
            refine G_callv 87 (G_runV C Kc_X11_lays KV_X11_218 (by omega) (by decide) (eM _ _ _) rfl (c_X11_lays 0 sl45) rfl rfl rfl (Nat.le_of_ble_eq_true rfl) rfl dX11_film_84) rfl (fun s84 h84 => ?_)
            have fz_4 : Fr mF s s84 := Fr.tr fzl45 (h84.1.mono (fun k hk => by unfold mF mK; omega))
            have i_4 : mI TX nT n l P s84 := mI_laysG hI2 kpl45 il45 (x_run_1 _ _ _) qkl45 h84.2 h84.1
            have qk_2 : Qk s38 s84 := Qk.tr qkl45 (Qk.fr h84.1 (by decide) (by decide) (by decide) (by decide) (by decide))
            have ca_3 : s84 10 = upd (s 10) ut 0 := (h84.1 10 (by decide)).trans cal45
            have cb_2 : s84 11 = upd (s 11) ut m := (h84.1 11 (by decide)).trans cbl45
            have nu_1 : ∀ j, j < k → s84 12 (40 * ut + j) = x_film TX P um j := fun j hj => by rw [h84.1 12 (by decide)]; exact nul45 j hj
            have no_4 : ∀ i, (∀ j, j < 40 → i ≠ 40 * ut + j) → s84 12 i = s 12 i := by rw [h84.1 12 (by decide)]; exact nol45
            refine G_iload_n (i := 2) C 88 dX11_film_87 rfl rfl rfl ?_
            exact G_iret C dX11_film_88 (⟨by
                unfold s_fiB; rw [if_neg k6, if_neg k19, cut, cum]
                exact ⟨nT, n, l, Rm_sh (so := 0) (sz := m) hR (by omega) i_4 fz_4 (Or.inr ⟨0, um, by decide, by omega, rfl, eum⟩) ca_3 cb_2 (fun j hj => nu_1 j (by omega)) no_4 (fun j hj => if_neg (by omega))⟩, by unfold s_fiR; rw [if_neg k6, if_neg k19]⟩)
          ·
            have n48 : k < 40 := (g_ltN (a := k) (b := 40) (hx := Ey) (hy := rfl) (by omega) (by omega)).mp c48
            refine G_aload_n (i := 0) C 52 dX11_film_51 rfl rfl rfl ?_
            refine X11_43g C 55 dX11_film_52 rfl ?_
            refine G_bipush (v := 40) C 57 dX11_film_55 rfl rfl ?_
            refine G_iload_n (i := 1) C 58 dX11_film_57 rfl rfl rfl ?_
            refine G_imul C 59 dX11_film_58 rfl (fun x58 ex58 => ?_)
            have Nx58 : x58 = nI (40 * ut) := g_mulN ex58 rfl eut
            refine G_iload_n (i := 3) C 60 dX11_film_59 rfl rfl rfl ?_
            refine G_iadd C 61 dX11_film_60 rfl (fun x60 ex60 => ?_)
            have Nx60 : x60 = nI ((40 * ut) + k) := g_addN ex60 Nx58 Ey
            refine G_iload_n (i := 3) C 62 dX11_film_61 rfl rfl rfl ?_
            refine G_iload_n (i := 2) C 63 dX11_film_62 rfl rfl rfl ?_
            refine G_icmp_ge C 75 66 dX11_film_63 rfl rfl (fun c63 => ?_) (fun c63 => ?_)
            ·
              have n63 : ¬ k < um := fun h => c63 ((g_ltN (a := k) (b := um) (hx := Ey) (hy := eum) (by omega) (by omega)).mpr h)
              refine G_iconst (v := 0) C 76 dX11_film_75 rfl rfl ?_
              refine G_iast (n := 160) C 77 (by decide) (fun σ => eMk (by decide) _ _ σ) (((40 * ut) + k)) Nx60 (by omega) (by decide) (Nat.le_refl _) dX11_film_76 rfl (fun s76 es76 => ?_)
              have fz_4 : Fr mF s s76 := Fr.tr fzl45 (Fr.up es76 (by unfold mF mK; omega))
              have i_4 : mI TX nT n l (x_run TX (min k um) P) s76 := mI_f (m := fun q => q = 12) il45 (Fr.up es76 rfl) (by decide) (by decide) (by decide) (by decide) (by decide) (by decide) (by decide)
              have kp_1 : kp s38 s76 := kp_fr kpl45 (Fr.up (m := fun q => q = 12) es76 rfl) (by decide)
              have qk_2 : Qk s38 s76 := Qk.tr qkl45 (Qk.fr (m := fun q => q = 12) (Fr.up es76 rfl) (by decide) (by decide) (by decide) (by decide) (by decide))
              have ca_3 : s76 10 = upd (s 10) ut 0 := by rw [es76, g_up_n (by decide)]; exact cal45
              have cb_2 : s76 11 = upd (s 11) ut m := by rw [es76, g_up_n (by decide)]; exact cbl45
              have nu_1 : ∀ j, j < k + 1 → s76 12 (40 * ut + j) = x_film TX P um j := fun j hj => by
                rw [es76, g_up_sj]
                by_cases e : j = k
                · rw [if_pos (by omega), e]
                  exact (if_neg (by omega)).symm
                · rw [if_neg (by omega)]
                  exact nul45 j (by omega)
              have no_4 : ∀ i, (∀ j, j < 40 → i ≠ 40 * ut + j) → s76 12 i = s 12 i := fun i hi => by rw [es76, g_up_sj, if_neg (hi k (by omega))]; exact nol45 i hi
              refine G_iinc (w := 1) C 80 dX11_film_77 rfl rfl rfl rfl (fun x77 ex77 => ?_)
              have Nx77 : x77 = nI (k + 1) := g_addN ex77 Ey rfl
              show GW SM E _ 80 [some (.ref (e_ad E 0)), some (.int t), some (.int m), some (.int x77)] [] s76
              refine G_goto C 45 dX11_film_80 rfl ?_
              exact ih45 (k + 1) x77 s76 (g_cn (a := (k + 1)) Nx77 (by first | rfl | omega | (simp only [List.length_cons, List.length_drop]; done) | (simp only [List.length_cons, List.length_drop]; omega))) (by omega) fz_4 (by rw [show min (k + 1) um = min k um by omega]; exact i_4) kp_1 qk_2 ca_3 cb_2 (nu_1) no_4 (by omega)
            ·
              have n63 : k < um := (g_ltN (a := k) (b := um) (hx := Ey) (hy := eum) (by omega) (by omega)).mp c63
              refine G_aload_n (i := 0) C 67 dX11_film_66 rfl rfl rfl ?_
              refine G_calli 70 (G_runV C Kc_X11_hourOf KV_X11_209 (by omega) (by decide) (eM _ _ _) rfl (c_X11_hourOf 0 TX nT n l (x_run TX (min k um) P) sl45 il45) rfl rfl rfl (Nat.le_of_ble_eq_true rfl) rfl dX11_film_67) rfl (fun x67 s67 h67 => ?_)
              have fz_4 : Fr mF s s67 := Fr.tr fzl45 (h67.1.mono (fun k hk => by unfold mH at hk; unfold mF mK; omega))
              have i_4 : mI TX nT n l (x_pass TX (x_run TX (min k um) P)) s67 := h67.2.1
              have kp_1 : kp s38 s67 := kp_fr kpl45 h67.1 (by unfold mH; omega)
              have qk_2 : Qk s38 s67 := Qk.tr qkl45 (Qk.fr h67.1 (by unfold mH; omega) (by unfold mH; omega) (by unfold mH; omega) (by unfold mH; omega) (by unfold mH; omega))
              have ca_3 : s67 10 = upd (s 10) ut 0 := (h67.1 10 (by unfold mH; omega)).trans cal45
              have cb_2 : s67 11 = upd (s 11) ut m := (h67.1 11 (by unfold mH; omega)).trans cbl45
              have nu_1 : ∀ j, j < k → s67 12 (40 * ut + j) = x_film TX P um j := fun j hj => by rw [h67.1 12 (by unfold mH; omega)]; exact nul45 j hj
              have no_4 : ∀ i, (∀ j, j < 40 → i ≠ 40 * ut + j) → s67 12 i = s 12 i := by rw [h67.1 12 (by unfold mH; omega)]; exact nol45
              refine G_iconst (v := 1) C 71 dX11_film_70 rfl rfl ?_
              refine G_iadd C 72 dX11_film_71 rfl (fun x71 ex71 => ?_)
              refine G_goto C 76 dX11_film_72 rfl ?_
              refine G_iast (n := 160) C 77 (by decide) (fun σ => eMk (by decide) _ _ σ) (((40 * ut) + k)) Nx60 (by omega) (by decide) (Nat.le_refl _) dX11_film_76 rfl (fun s76 es76 => ?_)
              have fz_5 : Fr mF s s76 := Fr.tr fz_4 (Fr.up es76 (by unfold mF mK; omega))
              have i_5 : mI TX nT n l (x_pass TX (x_run TX (min k um) P)) s76 := mI_f (m := fun q => q = 12) i_4 (Fr.up es76 rfl) (by decide) (by decide) (by decide) (by decide) (by decide) (by decide) (by decide)
              have kp_2 : kp s38 s76 := kp_fr kp_1 (Fr.up (m := fun q => q = 12) es76 rfl) (by decide)
              have qk_3 : Qk s38 s76 := Qk.tr qk_2 (Qk.fr (m := fun q => q = 12) (Fr.up es76 rfl) (by decide) (by decide) (by decide) (by decide) (by decide))
              have ca_4 : s76 10 = upd (s 10) ut 0 := by rw [es76, g_up_n (by decide)]; exact ca_3
              have cb_3 : s76 11 = upd (s 11) ut m := by rw [es76, g_up_n (by decide)]; exact cb_2
              have nu_2 : ∀ j, j < k + 1 → s76 12 (40 * ut + j) = x_film TX P um j := fun j hj => by
                rw [es76, g_up_sj]
                by_cases e : j = k
                · rw [if_pos (by omega), e]
                  rw [ex71, h67.2.2, show min k um = k by omega]
                  exact (if_pos (by omega)).symm
                · rw [if_neg (by omega)]
                  exact nu_1 j (by omega)
              have no_5 : ∀ i, (∀ j, j < 40 → i ≠ 40 * ut + j) → s76 12 i = s 12 i := fun i hi => by rw [es76, g_up_sj, if_neg (hi k (by omega))]; exact no_4 i hi
              refine G_iinc (w := 1) C 80 dX11_film_77 rfl rfl rfl rfl (fun x77 ex77 => ?_)
              have Nx77 : x77 = nI (k + 1) := g_addN ex77 Ey rfl
              show GW SM E _ 80 [some (.ref (e_ad E 0)), some (.int t), some (.int m), some (.int x77)] [] s76
              refine G_goto C 45 dX11_film_80 rfl ?_
              exact ih45 (k + 1) x77 s76 (g_cn (a := (k + 1)) Nx77 (by first | rfl | omega | (simp only [List.length_cons, List.length_drop]; done) | (simp only [List.length_cons, List.length_drop]; omega))) (by omega) fz_5 (by rw [show min (k + 1) um = min k um + 1 by omega]; exact i_5) kp_2 qk_3 ca_4 cb_3 (nu_2) no_5 (by omega)
      exact L45 (40 + 1) 0 0 s40 (g_cn (a := 0) rfl (by first | rfl | omega)) (by omega) fz_3 (by rw [show min 0 um = 0 by omega]; exact i_3) kp1 qk_1 ca_2 cb_1 (nu) no_3 (by omega)
    ·
      have k19 := h16.symm.trans c19
      refine G_bipush (v := (-7)) C 24 dX11_film_22 rfl rfl ?_
      exact G_iret C dX11_film_24 (⟨by unfold s_fiB; rw [if_neg k6, if_pos k19]; exact ⟨nT, n, l, hR⟩, by unfold s_fiR; rw [if_neg k6, if_pos k19]⟩)
  ·
    have k6 := h3.symm.trans c6
    refine G_bipush (v := (-2)) C 11 dX11_film_9 rfl rfl ?_
    exact G_iret C dX11_film_11 (⟨by unfold s_fiB; rw [if_pos k6]; exact ⟨nT, n, l, hR⟩, by unfold s_fiR; rw [if_pos k6]⟩)
theorem x_tw_1 (P : gS) (n a b : Nat) : x_tw P n a b 1 = P 1 := by
  unfold x_tw
  split
  · exact g_up_n (by decide)
  · rfl
theorem x_ltP_1 (TX : gTX) (P : gS) (n m : Nat) : ∀ k, x_ltP TX P n m k 1 = P 1 := by
  intro k
  induction k with
  | zero => rfl
  | succ k ih =>
    show x_pass TX (x_tw (x_ltP TX P n m k) n _ _) 1 = P 1
    rw [x_pass_a TX _ (by decide) (by decide) (by decide), x_tw_1, ih]
theorem dX11_quarters_0 : decode cX11_quarters 0 = .ok (.iload_n 1, 1) := by decide +kernel
theorem dX11_quarters_1 : decode cX11_quarters 1 = .ok (.i2l, 1) := by decide +kernel
theorem dX11_quarters_2 : decode cX11_quarters 2 = .ok (.lconst 1, 1) := by decide +kernel
theorem dX11_quarters_3 : decode cX11_quarters 3 = .ok (.ladd, 1) := by decide +kernel
theorem dX11_quarters_4 : decode cX11_quarters 4 = .ok (.lstore_n 2, 1) := by decide +kernel
theorem dX11_quarters_5 : decode cX11_quarters 5 = .ok (.iconst 0, 1) := by decide +kernel
theorem dX11_quarters_6 : decode cX11_quarters 6 = .ok (.istore 4, 2) := by decide +kernel
theorem dX11_quarters_8 : decode cX11_quarters 8 = .ok (.aload_n 0, 1) := by decide +kernel
theorem dX11_quarters_9 : decode cX11_quarters 9 = .ok (.invokevirtual 212, 3) := by decide +kernel
theorem dX11_quarters_12 : decode cX11_quarters 12 = .ok (.iconst 0, 1) := by decide +kernel
theorem dX11_quarters_13 : decode cX11_quarters 13 = .ok (.istore 5, 2) := by decide +kernel
theorem dX11_quarters_15 : decode cX11_quarters 15 = .ok (.iload 5, 2) := by decide +kernel
theorem dX11_quarters_17 : decode cX11_quarters 17 = .ok (.bipush 10, 2) := by decide +kernel
theorem dX11_quarters_19 : decode cX11_quarters 19 = .ok (.if_icmp .ge 86, 3) := by decide +kernel
theorem dX11_quarters_22 : decode cX11_quarters 22 = .ok (.lload_n 2, 1) := by decide +kernel
theorem dX11_quarters_23 : decode cX11_quarters 23 = .ok (.ldc2_w 251, 3) := by decide +kernel
theorem dX11_quarters_26 : decode cX11_quarters 26 = .ok (.lmul, 1) := by decide +kernel
theorem dX11_quarters_27 : decode cX11_quarters 27 = .ok (.ldc2_w 253, 3) := by decide +kernel
theorem dX11_quarters_30 : decode cX11_quarters 30 = .ok (.lrem, 1) := by decide +kernel
theorem dX11_quarters_31 : decode cX11_quarters 31 = .ok (.lstore_n 2, 1) := by decide +kernel
theorem dX11_quarters_32 : decode cX11_quarters 32 = .ok (.lload_n 2, 1) := by decide +kernel
theorem dX11_quarters_33 : decode cX11_quarters 33 = .ok (.ldc2_w 255, 3) := by decide +kernel
theorem dX11_quarters_36 : decode cX11_quarters 36 = .ok (.lrem, 1) := by decide +kernel
theorem dX11_quarters_37 : decode cX11_quarters 37 = .ok (.l2i, 1) := by decide +kernel
theorem dX11_quarters_38 : decode cX11_quarters 38 = .ok (.istore 6, 2) := by decide +kernel
theorem dX11_quarters_40 : decode cX11_quarters 40 = .ok (.lload_n 2, 1) := by decide +kernel
theorem dX11_quarters_41 : decode cX11_quarters 41 = .ok (.ldc2_w 251, 3) := by decide +kernel
theorem dX11_quarters_44 : decode cX11_quarters 44 = .ok (.lmul, 1) := by decide +kernel
theorem dX11_quarters_45 : decode cX11_quarters 45 = .ok (.ldc2_w 253, 3) := by decide +kernel
theorem dX11_quarters_48 : decode cX11_quarters 48 = .ok (.lrem, 1) := by decide +kernel
theorem dX11_quarters_49 : decode cX11_quarters 49 = .ok (.lstore_n 2, 1) := by decide +kernel
theorem dX11_quarters_50 : decode cX11_quarters 50 = .ok (.iload 6, 2) := by decide +kernel
theorem dX11_quarters_52 : decode cX11_quarters 52 = .ok (.aload_n 0, 1) := by decide +kernel
theorem dX11_quarters_53 : decode cX11_quarters 53 = .ok (.getfield 75, 3) := by decide +kernel
theorem dX11_quarters_56 : decode cX11_quarters 56 = .ok (.if_icmp .ge 25, 3) := by decide +kernel
theorem dX11_quarters_59 : decode cX11_quarters 59 = .ok (.aload_n 0, 1) := by decide +kernel
theorem dX11_quarters_60 : decode cX11_quarters 60 = .ok (.getfield 16, 3) := by decide +kernel
theorem dX11_quarters_63 : decode cX11_quarters 63 = .ok (.iconst 4, 1) := by decide +kernel
theorem dX11_quarters_64 : decode cX11_quarters 64 = .ok (.iload 6, 2) := by decide +kernel
theorem dX11_quarters_66 : decode cX11_quarters 66 = .ok (.imul, 1) := by decide +kernel
theorem dX11_quarters_67 : decode cX11_quarters 67 = .ok (.iconst 1, 1) := by decide +kernel
theorem dX11_quarters_68 : decode cX11_quarters 68 = .ok (.iadd, 1) := by decide +kernel
theorem dX11_quarters_69 : decode cX11_quarters 69 = .ok (.dup2, 1) := by decide +kernel
theorem dX11_quarters_70 : decode cX11_quarters 70 = .ok (.iaload, 1) := by decide +kernel
theorem dX11_quarters_71 : decode cX11_quarters 71 = .ok (.iconst 1, 1) := by decide +kernel
theorem dX11_quarters_72 : decode cX11_quarters 72 = .ok (.lload_n 2, 1) := by decide +kernel
theorem dX11_quarters_73 : decode cX11_quarters 73 = .ok (.ldc2_w 257, 3) := by decide +kernel
theorem dX11_quarters_76 : decode cX11_quarters 76 = .ok (.lrem, 1) := by decide +kernel
theorem dX11_quarters_77 : decode cX11_quarters 77 = .ok (.l2i, 1) := by decide +kernel
theorem dX11_quarters_78 : decode cX11_quarters 78 = .ok (.ishl, 1) := by decide +kernel
theorem dX11_quarters_79 : decode cX11_quarters 79 = .ok (.ixor, 1) := by decide +kernel
theorem dX11_quarters_80 : decode cX11_quarters 80 = .ok (.iastore, 1) := by decide +kernel
theorem dX11_quarters_81 : decode cX11_quarters 81 = .ok (.iload 4, 2) := by decide +kernel
theorem dX11_quarters_83 : decode cX11_quarters 83 = .ok (.aload_n 0, 1) := by decide +kernel
theorem dX11_quarters_84 : decode cX11_quarters 84 = .ok (.invokevirtual 209, 3) := by decide +kernel
theorem dX11_quarters_87 : decode cX11_quarters 87 = .ok (.iconst (-1), 1) := by decide +kernel
theorem dX11_quarters_88 : decode cX11_quarters 88 = .ok (.if_icmp .ne 7, 3) := by decide +kernel
theorem dX11_quarters_91 : decode cX11_quarters 91 = .ok (.iconst 0, 1) := by decide +kernel
theorem dX11_quarters_92 : decode cX11_quarters 92 = .ok (.goto 4, 3) := by decide +kernel
theorem dX11_quarters_95 : decode cX11_quarters 95 = .ok (.iconst 1, 1) := by decide +kernel
theorem dX11_quarters_96 : decode cX11_quarters 96 = .ok (.iadd, 1) := by decide +kernel
theorem dX11_quarters_97 : decode cX11_quarters 97 = .ok (.istore 4, 2) := by decide +kernel
theorem dX11_quarters_99 : decode cX11_quarters 99 = .ok (.iinc 5 1, 3) := by decide +kernel
theorem dX11_quarters_102 : decode cX11_quarters 102 = .ok (.goto (-87), 3) := by decide +kernel
theorem dX11_quarters_105 : decode cX11_quarters 105 = .ok (.aload_n 0, 1) := by decide +kernel
theorem dX11_quarters_106 : decode cX11_quarters 106 = .ok (.aload_n 0, 1) := by decide +kernel
theorem dX11_quarters_107 : decode cX11_quarters 107 = .ok (.getfield 19, 3) := by decide +kernel
theorem dX11_quarters_110 : decode cX11_quarters 110 = .ok (.iconst 2, 1) := by decide +kernel
theorem dX11_quarters_111 : decode cX11_quarters 111 = .ok (.iaload, 1) := by decide +kernel
theorem dX11_quarters_112 : decode cX11_quarters 112 = .ok (.putfield 259, 3) := by decide +kernel
theorem dX11_quarters_115 : decode cX11_quarters 115 = .ok (.aload_n 0, 1) := by decide +kernel
theorem dX11_quarters_116 : decode cX11_quarters 116 = .ok (.invokevirtual 218, 3) := by decide +kernel
theorem dX11_quarters_119 : decode cX11_quarters 119 = .ok (.iload 4, 2) := by decide +kernel
theorem dX11_quarters_121 : decode cX11_quarters 121 = .ok (.ireturn, 1) := by decide +kernel
set_option maxHeartbeats 4000000 in
set_option maxRecDepth 100000 in
theorem c_X11_quarters (d : Nat) (TX : gTX) (nT n l : Nat) (P s : gS) (hI : mI TX nT n l P s) (x : Int32) (sd m : Nat) (hx : x = nI sd) (hsd : sd ≤ 200000) (hm : m = sd + 1) : gMt SM yX11_quarters cX11_quarters 7 (some .int) (d + 10) (fun ad => [.ref (ad 0), .int x]) s (gQi SM (fun r s' => Qm s s' ∧ mI TX nT n l P s' ∧ s' 0 31 = x_ltP TX P n m 10 0 2 ∧ r = x_ltC TX P n m 10)) := by
  have hn6 : n ≤ 6 := hI.2.1.2.1
  have hl6 : l < 6 := mI_l6 hI
  have hm2 : m < 2147483647 := by omega
  refine gMt_of SM_ok (by decide +kernel) (fun ad => [some (.ref (ad 0)), some (.int x), none, none, none, none, none]) (fun _ => rfl) (fun _ => rfl) (fun _ => Nat.le_of_ble_eq_true rfl) (fun E C0 => ?_)
  have C : gCx SM E RX11 cX11_quarters 7 (some .int) (d + 10) := C0
  have qm : Qm s s := Qm.rf
  have i : mI TX nT n l P s := hI
  have qk : Qk s s := Qk.rf
  refine G_iload_n (i := 1) C 1 dX11_quarters_0 rfl rfl rfl ?_
  refine G_i2l C 2 dX11_quarters_1 rfl (fun x1 ex1 => ?_)
  have Nx1 : x1 = lN sd := i_toL ex1 hx (by omega)
  refine G_lconst (v := 1) C 3 dX11_quarters_2 rfl rfl ?_
  refine G_ladd C 4 dX11_quarters_3 rfl (fun x3 ex3 => ?_)
  have Nx3 : x3 = lN m := (l_cn (l_addN ex3 Nx1 fa_litL_1) (by omega))
  refine G_lstore_n (i := 2) (L' := [some (.ref (e_ad E 0)), some (.int x), some (.long x3), none, none, none, none]) C 5 dX11_quarters_4 rfl rfl (Nat.le_of_ble_eq_true rfl) rfl rfl ?_
  refine G_iconst (v := 0) C 6 dX11_quarters_5 rfl rfl ?_
  refine G_istore (L' := [some (.ref (e_ad E 0)), some (.int x), some (.long x3), none, some (.int 0), none, none]) C 8 dX11_quarters_6 rfl (Nat.le_of_ble_eq_true rfl) rfl rfl ?_
  refine G_aload_n (i := 0) C 9 dX11_quarters_8 rfl rfl rfl ?_
  refine G_callv 12 (G_runV C Kc_X11_keeps KV_X11_212 (by omega) (by decide) (eM _ _ _) rfl (c_X11_keeps 0 s) rfl rfl rfl (Nat.le_of_ble_eq_true rfl) rfl dX11_quarters_9) rfl (fun s9 h9 => ?_)
  have qm_1 : Qm s s9 := Qm.tr qm (Qm.K (Fr.mono (m' := mK) h9.1 (fun k hk => by unfold mK; omega)))
  have i_1 : mI TX nT n l P s9 := mI_kp i h9.1
  have qk_1 : Qk s s9 := Qk.tr qk (Qk.fr h9.1 (by decide) (by decide) (by decide) (by decide) (by decide))
  have kp1 : kp s s9 := h9.2
  refine G_iconst (v := 0) C 13 dX11_quarters_12 rfl rfl ?_
  refine G_istore (L' := [some (.ref (e_ad E 0)), some (.int x), some (.long x3), none, some (.int 0), some (.int 0), none]) C 15 dX11_quarters_13 rfl (Nat.le_of_ble_eq_true rfl) rfl rfl ?_
  have L15 : ∀ (f15 : Nat) (k : Nat) (lo : Int64) (cr : Int32) (y : Int32) (sl15 : gS) (Elo : lo = lN ((x_lt m (2 * k)))) (Ey : y = nI k) (hk : k ≤ 10) (hcr : cr = x_ltC TX P n m k) (qml15 : Qm s sl15) (il15 : mI TX nT n l (x_ltP TX P n m k) sl15) (kpl15 : kp s sl15) (qkl15 : Qk s sl15), 10 < k + f15 → GW SM E (gFin SM E (gQi SM (fun r s' => Qm s s' ∧ mI TX nT n l P s' ∧ s' 0 31 = x_ltP TX P n m 10 0 2 ∧ r = x_ltC TX P n m 10))) 15 [some (.ref (e_ad E 0)), some (.int x), some (.long lo), none, some (.int cr), some (.int y), none] [] sl15 := by
    intro f15
    induction f15 with
    | zero =>
      intro k lo cr y sl15 Elo Ey hk hcr qml15 il15 kpl15 qkl15 hf15
      exact absurd hf15 (by omega)
    | succ f15 ih15 =>
      intro k lo cr y sl15 Elo Ey hk hcr qml15 il15 kpl15 qkl15 hf15
      refine G_iload C 17 dX11_quarters_15 rfl rfl ?_
      refine G_bipush (v := 10) C 19 dX11_quarters_17 rfl rfl ?_
      refine G_icmp_ge C 105 22 dX11_quarters_19 rfl rfl (fun c19 => ?_) (fun c19 => ?_)
      ·
        have n19 : ¬ k < 10 := fun h => c19 ((g_ltN (a := k) (b := 10) (hx := Ey) (hy := rfl) (by omega) (by omega)).mpr h)
        refine G_aload_n (i := 0) C 106 dX11_quarters_105 rfl rfl rfl ?_
        refine G_aload_n (i := 0) C 107 dX11_quarters_106 rfl rfl rfl ?_
        refine X11_19g C 110 dX11_quarters_107 rfl ?_
        refine G_iconst (v := 2) C 111 dX11_quarters_110 rfl rfl ?_
        refine G_iald (n := 13) C 112 (by decide) (eMk (by decide) _ _ _) (2) rfl (by omega) (by decide) dX11_quarters_111 rfl (fun x111 ex111 => ?_)
        have Sx111 : x111 = (x_ltP TX P n m k) 0 2 := ex111.trans (mI_v il15 0 2)
        refine X11_259p C 115 dX11_quarters_112 rfl (fun s112 es112 => ?_)
        have qm_2 : Qm s s112 := Qm.tr qml15 (Qm.up31 es112)
        have i_2 : mI TX nT n l (x_ltP TX P n m 10) s112 := mI_u31 (by have e : k = 10 := (by omega); subst e; exact il15) es112
        have kp_1 : kp s s112 := kp_fr kpl15 (Fr.up (m := fun q => q = 0) es112 rfl) (by decide)
        have qk_2 : Qk s s112 := Qk.tr qkl15 (Qk.u31 es112)
        refine G_aload_n (i := 0) C 116 dX11_quarters_115 rfl rfl rfl ?_
        refine G_callv 119 (G_runV C Kc_X11_lays KV_X11_218 (by omega) (by decide) (eM _ _ _) rfl (c_X11_lays 0 s112) rfl rfl rfl (Nat.le_of_ble_eq_true rfl) rfl dX11_quarters_116) rfl (fun s116 h116 => ?_)
        have qm_3 : Qm s s116 := Qm.tr qm_2 (Qm.K (Fr.mono (m' := mK) h116.1 (fun k hk => by unfold mK; omega)))
        have i_3 : mI TX nT n l P s116 := mI_laysG hI kp_1 i_2 (x_ltP_1 TX P n m 10) qk_2 h116.2 h116.1
        have qk_3 : Qk s s116 := Qk.tr qk_2 (Qk.fr h116.1 (by decide) (by decide) (by decide) (by decide) (by decide))
        refine G_iload C 121 dX11_quarters_119 rfl rfl ?_
        exact G_iret C dX11_quarters_121 (⟨qm_3, i_3, by
            have e : k = 10 := by omega
            subst e
            rw [h116.1 0 (by decide), es112, g_up_sj, if_pos rfl]; exact Sx111, by
            have e : k = 10 := by omega
            subst e
            exact hcr⟩)
      ·
        have n19 : k < 10 := (g_ltN (a := k) (b := 10) (hx := Ey) (hy := rfl) (by omega) (by omega)).mp c19
        refine G_lload_n (i := 2) C 23 dX11_quarters_22 rfl rfl rfl ?_
        refine G_ldc2 (v := 48271) C 26 w_1210 dX11_quarters_23 rfl ?_
        refine G_lmul C 27 dX11_quarters_26 rfl (fun x26 ex26 => ?_)
        have Nx26 : x26 = lN (x_lt m (2 * k) * 48271) := l_mulN ex26 Elo fa_litL_48271
        refine G_ldc2 (v := 2147483647) C 30 w_1211 dX11_quarters_27 rfl ?_
        refine G_lrem C 31 dX11_quarters_30 rfl (by decide) (fun x30 ex30 => ?_)
        have Nx30 : x30 = lN (x_lt m (2 * k + 1)) := l_remN ex30 Nx26 fa_litL_2147483647 (by have := x_lt_r m hm2 (2 * k); omega) (by decide) (by decide)
        refine G_lstore_n (i := 2) (L' := [some (.ref (e_ad E 0)), some (.int x), some (.long x30), none, some (.int cr), some (.int y), none]) C 32 dX11_quarters_31 rfl rfl (Nat.le_of_ble_eq_true rfl) rfl rfl ?_
        refine G_lload_n (i := 2) C 33 dX11_quarters_32 rfl rfl rfl ?_
        refine G_ldc2 (v := 6) C 36 w_1212 dX11_quarters_33 rfl ?_
        refine G_lrem C 37 dX11_quarters_36 rfl (by decide) (fun x36 ex36 => ?_)
        have Nx36 : x36 = lN (x_lt m (2 * k + 1) % 6) := l_remN ex36 Nx30 fa_litL_6 (by have := x_lt_r m hm2 (2 * k + 1); omega) (by decide) (by decide)
        refine G_l2i C 38 dX11_quarters_37 rfl (fun x37 ex37 => ?_)
        have Nx37 : x37 = nI (x_lt m (2 * k + 1) % 6) := l_toI ex37 Nx36
        refine G_istore (L' := [some (.ref (e_ad E 0)), some (.int x), some (.long x30), none, some (.int cr), some (.int y), some (.int x37)]) C 40 dX11_quarters_38 rfl (Nat.le_of_ble_eq_true rfl) rfl rfl ?_
        obtain ⟨pa, hpa⟩ : ∃ a, a = x_lt m (2 * k + 1) % 6 := ⟨_, rfl⟩
        have Npa : x37 = nI pa := by rw [hpa]; exact Nx37
        have hpa6 : pa < 6 := by omega
        refine G_lload_n (i := 2) C 41 dX11_quarters_40 rfl rfl rfl ?_
        refine G_ldc2 (v := 48271) C 44 w_1210 dX11_quarters_41 rfl ?_
        refine G_lmul C 45 dX11_quarters_44 rfl (fun x44 ex44 => ?_)
        have Nx44 : x44 = lN (x_lt m (2 * k + 1) * 48271) := l_mulN ex44 Nx30 fa_litL_48271
        refine G_ldc2 (v := 2147483647) C 48 w_1211 dX11_quarters_45 rfl ?_
        refine G_lrem C 49 dX11_quarters_48 rfl (by decide) (fun x48 ex48 => ?_)
        have Nx48 : x48 = lN (x_lt m (2 * k + 2)) := l_remN ex48 Nx44 fa_litL_2147483647 (by have := x_lt_r m hm2 (2 * k + 1); omega) (by decide) (by decide)
        refine G_lstore_n (i := 2) (L' := [some (.ref (e_ad E 0)), some (.int x), some (.long x48), none, some (.int cr), some (.int y), some (.int x37)]) C 50 dX11_quarters_49 rfl rfl (Nat.le_of_ble_eq_true rfl) rfl rfl ?_
        refine G_iload C 52 dX11_quarters_50 rfl rfl ?_
        refine G_aload_n (i := 0) C 53 dX11_quarters_52 rfl rfl rfl ?_
        refine X11_75g C 56 dX11_quarters_53 rfl (fun x53 ex53 => ?_)
        have Sx53 : x53 = nI n := ex53.trans (mI_n il15)
        refine G_icmp_ge C 81 59 dX11_quarters_56 rfl rfl (fun c56 => ?_) (fun c56 => ?_)
        ·
          have n56 : ¬ pa < n := fun h => c56 ((g_ltN (a := pa) (b := n) (hx := Npa) (hy := Sx53) (by omega) (by omega)).mpr h)
          have i9 : mI TX nT n l (x_tw (x_ltP TX P n m k) n (x_lt m (2 * k + 1)) (x_lt m (2 * k + 2))) sl15 := by rw [x_tw_out (by rw [← hpa]; omega)]; exact il15
          refine G_iload C 83 dX11_quarters_81 rfl rfl ?_
          refine G_aload_n (i := 0) C 84 dX11_quarters_83 rfl rfl rfl ?_
          refine G_calli 87 (G_runV C Kc_X11_hourOf KV_X11_209 (by omega) (by decide) (eM _ _ _) rfl (c_X11_hourOf 0 TX nT n l (x_tw (x_ltP TX P n m k) n (x_lt m (2 * k + 1)) (x_lt m (2 * k + 2))) sl15 i9) rfl rfl rfl (Nat.le_of_ble_eq_true rfl) rfl dX11_quarters_84) rfl (fun x84 s84 h84 => ?_)
          have qm_2 : Qm s s84 := Qm.tr qml15 (Qm.H h84.1)
          have i_2 : mI TX nT n l (x_ltP TX P n m (k + 1)) s84 := h84.2.1
          have kp_1 : kp s s84 := kp_fr kpl15 h84.1 (by unfold mH; omega)
          have qk_2 : Qk s s84 := Qk.tr qkl15 (Qk.fr h84.1 (by unfold mH; omega) (by unfold mH; omega) (by unfold mH; omega) (by unfold mH; omega) (by unfold mH; omega))
          refine G_iconst (v := (-1)) C 88 dX11_quarters_87 rfl rfl ?_
          refine G_icmp_ne C 95 91 dX11_quarters_88 rfl rfl (fun c88 => ?_) (fun c88 => ?_)
          ·
            refine G_iconst (v := 1) C 96 dX11_quarters_95 rfl rfl ?_
            refine G_iadd C 97 dX11_quarters_96 rfl (fun x96 ex96 => ?_)
            refine G_istore (L' := [some (.ref (e_ad E 0)), some (.int x), some (.long x48), none, some (.int x96), some (.int y), some (.int x37)]) C 99 dX11_quarters_97 rfl (Nat.le_of_ble_eq_true rfl) rfl rfl ?_
            refine G_iinc (w := 1) C 102 dX11_quarters_99 rfl rfl rfl rfl (fun x99 ex99 => ?_)
            have Nx99 : x99 = nI (k + 1) := g_addN ex99 Ey rfl
            show GW SM E _ 102 [some (.ref (e_ad E 0)), some (.int x), some (.long x48), none, some (.int x96), some (.int x99), some (.int x37)] [] s84
            refine G_goto C 15 dX11_quarters_102 rfl ?_
            refine G_drop (L' := [some (.ref (e_ad E 0)), some (.int x), some (.long x48), none, some (.int x96), some (.int x99), none]) ⟨rfl, rfl, rfl, rfl, rfl, trivial⟩ ?_
            exact ih15 (k + 1) x48 x96 x99 s84 (l_cn (a := (x_lt m (2 * k + 2))) Nx48 (by first | rfl | omega | (simp only [List.length_cons, List.length_drop]; done) | (simp only [List.length_cons, List.length_drop]; omega))) (g_cn (a := (k + 1)) Nx99 (by first | rfl | omega | (simp only [List.length_cons, List.length_drop]; done) | (simp only [List.length_cons, List.length_drop]; omega))) (by omega) (by rw [x_ltC, if_neg (by rw [← h84.2.2]; exact c88), ex96, hcr]) qm_2 (i_2) kp_1 qk_2 (by omega)
          ·
            refine G_iconst (v := 0) C 92 dX11_quarters_91 rfl rfl ?_
            refine G_goto C 96 dX11_quarters_92 rfl ?_
            refine G_iadd C 97 dX11_quarters_96 rfl (fun x96 ex96 => ?_)
            refine G_istore (L' := [some (.ref (e_ad E 0)), some (.int x), some (.long x48), none, some (.int x96), some (.int y), some (.int x37)]) C 99 dX11_quarters_97 rfl (Nat.le_of_ble_eq_true rfl) rfl rfl ?_
            refine G_iinc (w := 1) C 102 dX11_quarters_99 rfl rfl rfl rfl (fun x99 ex99 => ?_)
            have Nx99 : x99 = nI (k + 1) := g_addN ex99 Ey rfl
            show GW SM E _ 102 [some (.ref (e_ad E 0)), some (.int x), some (.long x48), none, some (.int x96), some (.int x99), some (.int x37)] [] s84
            refine G_goto C 15 dX11_quarters_102 rfl ?_
            refine G_drop (L' := [some (.ref (e_ad E 0)), some (.int x), some (.long x48), none, some (.int x96), some (.int x99), none]) ⟨rfl, rfl, rfl, rfl, rfl, trivial⟩ ?_
            exact ih15 (k + 1) x48 x96 x99 s84 (l_cn (a := (x_lt m (2 * k + 2))) Nx48 (by first | rfl | omega | (simp only [List.length_cons, List.length_drop]; done) | (simp only [List.length_cons, List.length_drop]; omega))) (g_cn (a := (k + 1)) Nx99 (by first | rfl | omega | (simp only [List.length_cons, List.length_drop]; done) | (simp only [List.length_cons, List.length_drop]; omega))) (by omega) (by rw [x_ltC, if_pos (h84.2.2.symm.trans c88), ex96, hcr, Int32.add_zero]) qm_2 (i_2) kp_1 qk_2 (by omega)
        ·
          have n56 : pa < n := (g_ltN (a := pa) (b := n) (hx := Npa) (hy := Sx53) (by omega) (by omega)).mp c56
          refine G_aload_n (i := 0) C 60 dX11_quarters_59 rfl rfl rfl ?_
          refine X11_16g C 63 dX11_quarters_60 rfl ?_
          refine G_iconst (v := 4) C 64 dX11_quarters_63 rfl rfl ?_
          refine G_iload C 66 dX11_quarters_64 rfl rfl ?_
          refine G_imul C 67 dX11_quarters_66 rfl (fun x66 ex66 => ?_)
          have Nx66 : x66 = nI (4 * pa) := g_mulN ex66 rfl Npa
          refine G_iconst (v := 1) C 68 dX11_quarters_67 rfl rfl ?_
          refine G_iadd C 69 dX11_quarters_68 rfl (fun x68 ex68 => ?_)
          have Nx68 : x68 = nI ((4 * pa) + 1) := g_addN ex68 Nx66 rfl
          refine G_dup2 C 70 dX11_quarters_69 rfl rfl rfl ?_
          refine G_iald (n := 24) C 71 (by decide) (eMk (by decide) _ _ _) (((4 * pa) + 1)) Nx68 (by omega) (by decide) dX11_quarters_70 rfl (fun x70 ex70 => ?_)
          have Sx70 : x70 = (x_ltP TX P n m k) 3 pa := ex70.trans (congrFun (congrFun il15.1 3) pa)
          obtain ⟨mx70, hmx70, emx70⟩ := (mI_p il15 (p := pa) (by omega)).2.1
          refine G_iconst (v := 1) C 72 dX11_quarters_71 rfl rfl ?_
          refine G_lload_n (i := 2) C 73 dX11_quarters_72 rfl rfl rfl ?_
          refine G_ldc2 (v := 10) C 76 w_1213 dX11_quarters_73 rfl ?_
          refine G_lrem C 77 dX11_quarters_76 rfl (by decide) (fun x76 ex76 => ?_)
          have Nx76 : x76 = lN (x_lt m (2 * k + 2) % 10) := l_remN ex76 Nx48 fa_litL_10 (by have := x_lt_r m hm2 (2 * k + 2); omega) (by decide) (by decide)
          refine G_l2i C 78 dX11_quarters_77 rfl (fun x77 ex77 => ?_)
          have Nx77 : x77 = nI (x_lt m (2 * k + 2) % 10) := l_toI ex77 Nx76
          refine G_ishl C 79 dX11_quarters_78 rfl (fun x78 ex78 => ?_)
          refine G_ixor C 80 dX11_quarters_79 rfl (fun x79 ex79 => ?_)
          refine G_iast (n := 24) C 81 (by decide) (fun σ => eMk (by decide) _ _ σ) (((4 * pa) + 1)) Nx68 (by omega) (by decide) (Nat.le_refl _) dX11_quarters_80 rfl (fun s80 es80 => ?_)
          have qm_2 : Qm s s80 := Qm.tr qml15 (Qm.up es80 (by unfold mR; omega))
          have i_2 : mI TX nT n l (x_tw (x_ltP TX P n m k) n (x_lt m (2 * k + 1)) (x_lt m (2 * k + 2))) s80 := by have z := mI_up3 il15 es80 (by rw [ex79, ex78, Nx77, Sx70]; exact bt_xor1024 ⟨mx70, hmx70, emx70⟩ (bt_1024p (by omega))); rw [ex79, ex78, Nx77, Sx70] at z; rw [x_tw_in (by rw [← hpa]; exact n56), ← hpa]; exact z
          have kp_1 : kp s s80 := kp_fr kpl15 (Fr.up (m := fun q => q = 3) es80 rfl) (by decide)
          have qk_2 : Qk s s80 := Qk.tr qkl15 (Qk.fr (m := fun q => q = 3) (Fr.up es80 rfl) (by decide) (by decide) (by decide) (by decide) (by decide))
          refine G_iload C 83 dX11_quarters_81 rfl rfl ?_
          refine G_aload_n (i := 0) C 84 dX11_quarters_83 rfl rfl rfl ?_
          refine G_calli 87 (G_runV C Kc_X11_hourOf KV_X11_209 (by omega) (by decide) (eM _ _ _) rfl (c_X11_hourOf 0 TX nT n l (x_tw (x_ltP TX P n m k) n (x_lt m (2 * k + 1)) (x_lt m (2 * k + 2))) s80 i_2) rfl rfl rfl (Nat.le_of_ble_eq_true rfl) rfl dX11_quarters_84) rfl (fun x84 s84 h84 => ?_)
          have qm_3 : Qm s s84 := Qm.tr qm_2 (Qm.H h84.1)
          have i_3 : mI TX nT n l (x_ltP TX P n m (k + 1)) s84 := h84.2.1
          have kp_2 : kp s s84 := kp_fr kp_1 h84.1 (by unfold mH; omega)
          have qk_3 : Qk s s84 := Qk.tr qk_2 (Qk.fr h84.1 (by unfold mH; omega) (by unfold mH; omega) (by unfold mH; omega) (by unfold mH; omega) (by unfold mH; omega))
          refine G_iconst (v := (-1)) C 88 dX11_quarters_87 rfl rfl ?_
          refine G_icmp_ne C 95 91 dX11_quarters_88 rfl rfl (fun c88 => ?_) (fun c88 => ?_)
          ·
            refine G_iconst (v := 1) C 96 dX11_quarters_95 rfl rfl ?_
            refine G_iadd C 97 dX11_quarters_96 rfl (fun x96 ex96 => ?_)
            refine G_istore (L' := [some (.ref (e_ad E 0)), some (.int x), some (.long x48), none, some (.int x96), some (.int y), some (.int x37)]) C 99 dX11_quarters_97 rfl (Nat.le_of_ble_eq_true rfl) rfl rfl ?_
            refine G_iinc (w := 1) C 102 dX11_quarters_99 rfl rfl rfl rfl (fun x99 ex99 => ?_)
            have Nx99 : x99 = nI (k + 1) := g_addN ex99 Ey rfl
            show GW SM E _ 102 [some (.ref (e_ad E 0)), some (.int x), some (.long x48), none, some (.int x96), some (.int x99), some (.int x37)] [] s84
            refine G_goto C 15 dX11_quarters_102 rfl ?_
            refine G_drop (L' := [some (.ref (e_ad E 0)), some (.int x), some (.long x48), none, some (.int x96), some (.int x99), none]) ⟨rfl, rfl, rfl, rfl, rfl, trivial⟩ ?_
            exact ih15 (k + 1) x48 x96 x99 s84 (l_cn (a := (x_lt m (2 * k + 2))) Nx48 (by first | rfl | omega | (simp only [List.length_cons, List.length_drop]; done) | (simp only [List.length_cons, List.length_drop]; omega))) (g_cn (a := (k + 1)) Nx99 (by first | rfl | omega | (simp only [List.length_cons, List.length_drop]; done) | (simp only [List.length_cons, List.length_drop]; omega))) (by omega) (by rw [x_ltC, if_neg (by rw [← h84.2.2]; exact c88), ex96, hcr]) qm_3 (i_3) kp_2 qk_3 (by omega)
          ·
            refine G_iconst (v := 0) C 92 dX11_quarters_91 rfl rfl ?_
            refine G_goto C 96 dX11_quarters_92 rfl ?_
            refine G_iadd C 97 dX11_quarters_96 rfl (fun x96 ex96 => ?_)
            refine G_istore (L' := [some (.ref (e_ad E 0)), some (.int x), some (.long x48), none, some (.int x96), some (.int y), some (.int x37)]) C 99 dX11_quarters_97 rfl (Nat.le_of_ble_eq_true rfl) rfl rfl ?_
            refine G_iinc (w := 1) C 102 dX11_quarters_99 rfl rfl rfl rfl (fun x99 ex99 => ?_)
            have Nx99 : x99 = nI (k + 1) := g_addN ex99 Ey rfl
            show GW SM E _ 102 [some (.ref (e_ad E 0)), some (.int x), some (.long x48), none, some (.int x96), some (.int x99), some (.int x37)] [] s84
            refine G_goto C 15 dX11_quarters_102 rfl ?_
            refine G_drop (L' := [some (.ref (e_ad E 0)), some (.int x), some (.long x48), none, some (.int x96), some (.int x99), none]) ⟨rfl, rfl, rfl, rfl, rfl, trivial⟩ ?_
            exact ih15 (k + 1) x48 x96 x99 s84 (l_cn (a := (x_lt m (2 * k + 2))) Nx48 (by first | rfl | omega | (simp only [List.length_cons, List.length_drop]; done) | (simp only [List.length_cons, List.length_drop]; omega))) (g_cn (a := (k + 1)) Nx99 (by first | rfl | omega | (simp only [List.length_cons, List.length_drop]; done) | (simp only [List.length_cons, List.length_drop]; omega))) (by omega) (by rw [x_ltC, if_pos (h84.2.2.symm.trans c88), ex96, hcr, Int32.add_zero]) qm_3 (i_3) kp_2 qk_3 (by omega)
  exact L15 (10 + 1) 0 x3 0 0 s9 (l_cn (a := m) Nx3 (by first | rfl | omega)) (g_cn (a := 0) rfl (by first | rfl | omega)) (by omega) (rfl) qm_1 (i_1) kp1 qk_1 (by omega)
theorem dX11_drawn_0 : decode cX11_drawn 0 = .ok (.iload_n 1, 1) := by decide +kernel
theorem dX11_drawn_1 : decode cX11_drawn 1 = .ok (.iconst 0, 1) := by decide +kernel
theorem dX11_drawn_2 : decode cX11_drawn 2 = .ok (.ldc_w 262, 3) := by decide +kernel
theorem dX11_drawn_5 : decode cX11_drawn 5 = .ok (.invokestatic 78, 3) := by decide +kernel
theorem dX11_drawn_8 : decode cX11_drawn 8 = .ok (.ifCond .eq 12, 3) := by decide +kernel
theorem dX11_drawn_11 : decode cX11_drawn 11 = .ok (.iload_n 2, 1) := by decide +kernel
theorem dX11_drawn_12 : decode cX11_drawn 12 = .ok (.iconst 0, 1) := by decide +kernel
theorem dX11_drawn_13 : decode cX11_drawn 13 = .ok (.iconst 1, 1) := by decide +kernel
theorem dX11_drawn_14 : decode cX11_drawn 14 = .ok (.invokestatic 78, 3) := by decide +kernel
theorem dX11_drawn_17 : decode cX11_drawn 17 = .ok (.ifCond .ne 6, 3) := by decide +kernel
theorem dX11_drawn_20 : decode cX11_drawn 20 = .ok (.bipush (-2), 2) := by decide +kernel
theorem dX11_drawn_22 : decode cX11_drawn 22 = .ok (.ireturn, 1) := by decide +kernel
theorem dX11_drawn_23 : decode cX11_drawn 23 = .ok (.aload_n 0, 1) := by decide +kernel
theorem dX11_drawn_24 : decode cX11_drawn 24 = .ok (.iload_n 1, 1) := by decide +kernel
theorem dX11_drawn_25 : decode cX11_drawn 25 = .ok (.invokevirtual 263, 3) := by decide +kernel
theorem dX11_drawn_28 : decode cX11_drawn 28 = .ok (.istore_n 3, 1) := by decide +kernel
theorem dX11_drawn_29 : decode cX11_drawn 29 = .ok (.iload_n 2, 1) := by decide +kernel
theorem dX11_drawn_30 : decode cX11_drawn 30 = .ok (.ifCond .ne 7, 3) := by decide +kernel
theorem dX11_drawn_33 : decode cX11_drawn 33 = .ok (.iload_n 3, 1) := by decide +kernel
theorem dX11_drawn_34 : decode cX11_drawn 34 = .ok (.goto 7, 3) := by decide +kernel
theorem dX11_drawn_37 : decode cX11_drawn 37 = .ok (.aload_n 0, 1) := by decide +kernel
theorem dX11_drawn_38 : decode cX11_drawn 38 = .ok (.getfield 259, 3) := by decide +kernel
theorem dX11_drawn_41 : decode cX11_drawn 41 = .ok (.ireturn, 1) := by decide +kernel
set_option maxHeartbeats 4000000 in
set_option maxRecDepth 100000 in
theorem c_X11_drawn (d : Nat) (TX : gTX) (P B s : gS) (hR0 : RM TX P B s) (t q : Int32) : gMt SM yX11_drawn cX11_drawn 4 (some .int) (d + 11) (fun ad => [.ref (ad 0), .int t, .int q]) s (gQi SM (fun r s' => RM TX P B s' ∧ r = s_drawn TX P t q)) := by
  obtain ⟨nT, n, l, hR⟩ := hR0
  have hI := hR.1
  have hn6 : n ≤ 6 := hI.2.1.2.1
  have hl6 : l < 6 := mI_l6 hI
  have hxn : x_n P = n := x_nOf hI.2.1.1 hn6
  have hbI := hR.2.2
  have hnT6 : nT ≤ 6 := hI.2.1.2.2.2.2.1
  obtain ⟨tn0, htn0, etn0⟩ := hbI.2.1
  refine gMt_of SM_ok (by decide +kernel) (fun ad => [some (.ref (ad 0)), some (.int t), some (.int q), none]) (fun _ => rfl) (fun _ => rfl) (fun _ => Nat.le_of_ble_eq_true rfl) (fun E C0 => ?_)
  have C : gCx SM E RX11 cX11_drawn 4 (some .int) (d + 11) := C0
  have fn : Qn s s := Qn.rf
  have i : mI TX nT n l P s := hI
  refine G_iload_n (i := 1) C 1 dX11_drawn_0 rfl rfl rfl ?_
  refine G_iconst (v := 0) C 2 dX11_drawn_1 rfl rfl ?_
  refine G_ldcw (v := 99999) C 5 w_1205 dX11_drawn_2 rfl ?_
  refine G_calli 8 (G_runS C Kc_X11_in KS_X11_78 (by omega) (c_X11_in 0 t 0 99999 s) rfl rfl (Nat.le_of_ble_eq_true rfl) rfl dX11_drawn_5) rfl (fun x5 s5 h5 => ?_)
  obtain ⟨es5, h5⟩ := h5
  have es5 := es5.symm
  subst es5
  refine G_if_eq C 20 11 dX11_drawn_8 rfl rfl (fun c8 => ?_) (fun c8 => ?_)
  ·
    have k8 := h5.symm.trans c8
    refine G_bipush (v := (-2)) C 22 dX11_drawn_20 rfl rfl ?_
    exact G_iret C dX11_drawn_22 (⟨⟨nT, n, l, hR⟩, by unfold s_drawn; rw [if_pos k8]⟩)
  ·
    have k8 := g_neT h5 c8
    obtain ⟨ut, hut, eut⟩ := x_inR (b := 99999) k8 rfl (by decide)
    have cut : t.toNatClampNeg = ut := by rw [eut, nI_clamp (by omega)]
    refine G_iload_n (i := 2) C 12 dX11_drawn_11 rfl rfl rfl ?_
    refine G_iconst (v := 0) C 13 dX11_drawn_12 rfl rfl ?_
    refine G_iconst (v := 1) C 14 dX11_drawn_13 rfl rfl ?_
    refine G_calli 17 (G_runS C Kc_X11_in KS_X11_78 (by omega) (c_X11_in 0 q 0 1 s) rfl rfl (Nat.le_of_ble_eq_true rfl) rfl dX11_drawn_14) rfl (fun x14 s14 h14 => ?_)
    obtain ⟨es14, h14⟩ := h14
    have es14 := es14.symm
    subst es14
    refine G_if_ne C 23 20 dX11_drawn_17 rfl rfl (fun c17 => ?_) (fun c17 => ?_)
    ·
      have k17 := g_neT h14 c17
      refine G_aload_n (i := 0) C 24 dX11_drawn_23 rfl rfl rfl ?_
      refine G_iload_n (i := 1) C 25 dX11_drawn_24 rfl rfl rfl ?_
      refine G_calli 28 (G_runV C Kc_X11_quarters KV_X11_263 (by omega) (by decide) (eM _ _ _) rfl (c_X11_quarters 0 TX nT n l P s i t ut (ut + 1) eut (by omega) rfl) rfl rfl rfl (Nat.le_of_ble_eq_true rfl) rfl dX11_drawn_25) rfl (fun x25 s25 h25 => ?_)
      have fn_1 : Qn s s25 := Qn.tr fn (h25.1.n)
      have i_1 : mI TX nT n l P s25 := h25.2.1
      refine G_istore_n (i := 3) (L' := [some (.ref (e_ad E 0)), some (.int t), some (.int q), some (.int x25)]) C 29 dX11_drawn_28 rfl rfl (Nat.le_of_ble_eq_true rfl) rfl rfl ?_
      refine G_iload_n (i := 2) C 30 dX11_drawn_29 rfl rfl rfl ?_
      refine G_if_ne C 37 33 dX11_drawn_30 rfl rfl (fun c30 => ?_) (fun c30 => ?_)
      ·
        refine G_aload_n (i := 0) C 38 dX11_drawn_37 rfl rfl rfl ?_
        refine X11_259g C 41 dX11_drawn_38 rfl (fun x38 ex38 => ?_)
        exact G_iret C dX11_drawn_41 (⟨RM_i hR i_1 fn_1, by unfold s_drawn; rw [if_neg k8, if_neg k17, cut, hxn, if_neg c30]; exact ex38.trans h25.2.2.1⟩)
      ·
        refine G_iload_n (i := 3) C 34 dX11_drawn_33 rfl rfl rfl ?_
        refine G_goto C 41 dX11_drawn_34 rfl ?_
        exact G_iret C dX11_drawn_41 (⟨RM_i hR i_1 fn_1, by unfold s_drawn; rw [if_neg k8, if_neg k17, cut, hxn, if_pos c30]; exact h25.2.2.2⟩)
    ·
      have k17 := h14.symm.trans c17
      refine G_bipush (v := (-2)) C 22 dX11_drawn_20 rfl rfl ?_
      exact G_iret C dX11_drawn_22 (⟨⟨nT, n, l, hR⟩, by unfold s_drawn; rw [if_neg k8, if_pos k17]⟩)
theorem dX11_odds_0 : decode cX11_odds 0 = .ok (.iload_n 1, 1) := by decide +kernel
theorem dX11_odds_1 : decode cX11_odds 1 = .ok (.iconst 0, 1) := by decide +kernel
theorem dX11_odds_2 : decode cX11_odds 2 = .ok (.ldc_w 262, 3) := by decide +kernel
theorem dX11_odds_5 : decode cX11_odds 5 = .ok (.invokestatic 78, 3) := by decide +kernel
theorem dX11_odds_8 : decode cX11_odds 8 = .ok (.ifCond .eq 33, 3) := by decide +kernel
theorem dX11_odds_11 : decode cX11_odds 11 = .ok (.iload_n 2, 1) := by decide +kernel
theorem dX11_odds_12 : decode cX11_odds 12 = .ok (.iconst 1, 1) := by decide +kernel
theorem dX11_odds_13 : decode cX11_odds 13 = .ok (.bipush 40, 2) := by decide +kernel
theorem dX11_odds_15 : decode cX11_odds 15 = .ok (.invokestatic 78, 3) := by decide +kernel
theorem dX11_odds_18 : decode cX11_odds 18 = .ok (.ifCond .eq 23, 3) := by decide +kernel
theorem dX11_odds_21 : decode cX11_odds 21 = .ok (.iload_n 3, 1) := by decide +kernel
theorem dX11_odds_22 : decode cX11_odds 22 = .ok (.iconst 0, 1) := by decide +kernel
theorem dX11_odds_23 : decode cX11_odds 23 = .ok (.bipush 10, 2) := by decide +kernel
theorem dX11_odds_25 : decode cX11_odds 25 = .ok (.invokestatic 78, 3) := by decide +kernel
theorem dX11_odds_28 : decode cX11_odds 28 = .ok (.ifCond .eq 13, 3) := by decide +kernel
theorem dX11_odds_31 : decode cX11_odds 31 = .ok (.iload 4, 2) := by decide +kernel
theorem dX11_odds_33 : decode cX11_odds 33 = .ok (.iconst 0, 1) := by decide +kernel
theorem dX11_odds_34 : decode cX11_odds 34 = .ok (.iconst 1, 1) := by decide +kernel
theorem dX11_odds_35 : decode cX11_odds 35 = .ok (.invokestatic 78, 3) := by decide +kernel
theorem dX11_odds_38 : decode cX11_odds 38 = .ok (.ifCond .ne 7, 3) := by decide +kernel
theorem dX11_odds_41 : decode cX11_odds 41 = .ok (.ldc2_w 243, 3) := by decide +kernel
theorem dX11_odds_44 : decode cX11_odds 44 = .ok (.lreturn, 1) := by decide +kernel
theorem dX11_odds_45 : decode cX11_odds 45 = .ok (.lconst 0, 1) := by decide +kernel
theorem dX11_odds_46 : decode cX11_odds 46 = .ok (.lstore 5, 2) := by decide +kernel
theorem dX11_odds_48 : decode cX11_odds 48 = .ok (.iconst 0, 1) := by decide +kernel
theorem dX11_odds_49 : decode cX11_odds 49 = .ok (.istore 7, 2) := by decide +kernel
theorem dX11_odds_51 : decode cX11_odds 51 = .ok (.iload 7, 2) := by decide +kernel
theorem dX11_odds_53 : decode cX11_odds 53 = .ok (.iload_n 2, 1) := by decide +kernel
theorem dX11_odds_54 : decode cX11_odds 54 = .ok (.if_icmp .ge 31, 3) := by decide +kernel
theorem dX11_odds_57 : decode cX11_odds 57 = .ok (.lload 5, 2) := by decide +kernel
theorem dX11_odds_59 : decode cX11_odds 59 = .ok (.aload_n 0, 1) := by decide +kernel
theorem dX11_odds_60 : decode cX11_odds 60 = .ok (.iload_n 1, 1) := by decide +kernel
theorem dX11_odds_61 : decode cX11_odds 61 = .ok (.iload 7, 2) := by decide +kernel
theorem dX11_odds_63 : decode cX11_odds 63 = .ok (.iadd, 1) := by decide +kernel
theorem dX11_odds_64 : decode cX11_odds 64 = .ok (.invokevirtual 263, 3) := by decide +kernel
theorem dX11_odds_67 : decode cX11_odds 67 = .ok (.iload_n 3, 1) := by decide +kernel
theorem dX11_odds_68 : decode cX11_odds 68 = .ok (.if_icmp .lt 7, 3) := by decide +kernel
theorem dX11_odds_71 : decode cX11_odds 71 = .ok (.lconst 1, 1) := by decide +kernel
theorem dX11_odds_72 : decode cX11_odds 72 = .ok (.goto 4, 3) := by decide +kernel
theorem dX11_odds_75 : decode cX11_odds 75 = .ok (.lconst 0, 1) := by decide +kernel
theorem dX11_odds_76 : decode cX11_odds 76 = .ok (.ladd, 1) := by decide +kernel
theorem dX11_odds_77 : decode cX11_odds 77 = .ok (.lstore 5, 2) := by decide +kernel
theorem dX11_odds_79 : decode cX11_odds 79 = .ok (.iinc 7 1, 3) := by decide +kernel
theorem dX11_odds_82 : decode cX11_odds 82 = .ok (.goto (-31), 3) := by decide +kernel
theorem dX11_odds_85 : decode cX11_odds 85 = .ok (.lload 5, 2) := by decide +kernel
theorem dX11_odds_87 : decode cX11_odds 87 = .ok (.iload_n 2, 1) := by decide +kernel
theorem dX11_odds_88 : decode cX11_odds 88 = .ok (.i2l, 1) := by decide +kernel
theorem dX11_odds_89 : decode cX11_odds 89 = .ok (.iload 4, 2) := by decide +kernel
theorem dX11_odds_91 : decode cX11_odds 91 = .ok (.invokestatic 239, 3) := by decide +kernel
theorem dX11_odds_94 : decode cX11_odds 94 = .ok (.lreturn, 1) := by decide +kernel
set_option maxHeartbeats 4000000 in
set_option maxRecDepth 100000 in
theorem c_X11_odds (d : Nat) (TX : gTX) (P B s : gS) (hR0 : RM TX P B s) (t v w q : Int32) : gMt SM yX11_odds cX11_odds 8 (some .long) (d + 11) (fun ad => [.ref (ad 0), .int t, .int v, .int w, .int q]) s (gQl SM (fun r s' => RM TX P B s' ∧ r = s_odds TX P t v w q)) := by
  obtain ⟨nT, n, l, hR⟩ := hR0
  have hI := hR.1
  have hn6 : n ≤ 6 := hI.2.1.2.1
  have hl6 : l < 6 := mI_l6 hI
  have hxn : x_n P = n := x_nOf hI.2.1.1 hn6
  have hbI := hR.2.2
  have hnT6 : nT ≤ 6 := hI.2.1.2.2.2.2.1
  obtain ⟨tn0, htn0, etn0⟩ := hbI.2.1
  refine gMt_of SM_ok (by decide +kernel) (fun ad => [some (.ref (ad 0)), some (.int t), some (.int v), some (.int w), some (.int q), none, none, none]) (fun _ => rfl) (fun _ => rfl) (fun _ => Nat.le_of_ble_eq_true rfl) (fun E C0 => ?_)
  have C : gCx SM E RX11 cX11_odds 8 (some .long) (d + 11) := C0
  have fn : Qn s s := Qn.rf
  have i : mI TX nT n l P s := hI
  refine G_iload_n (i := 1) C 1 dX11_odds_0 rfl rfl rfl ?_
  refine G_iconst (v := 0) C 2 dX11_odds_1 rfl rfl ?_
  refine G_ldcw (v := 99999) C 5 w_1205 dX11_odds_2 rfl ?_
  refine G_calli 8 (G_runS C Kc_X11_in KS_X11_78 (by omega) (c_X11_in 0 t 0 99999 s) rfl rfl (Nat.le_of_ble_eq_true rfl) rfl dX11_odds_5) rfl (fun x5 s5 h5 => ?_)
  obtain ⟨es5, h5⟩ := h5
  have es5 := es5.symm
  subst es5
  refine G_if_eq C 41 11 dX11_odds_8 rfl rfl (fun c8 => ?_) (fun c8 => ?_)
  ·
    have k8 := h5.symm.trans c8
    refine G_ldc2 (v := (-4611686018427387904)) C 44 w_1164 dX11_odds_41 rfl ?_
    exact G_lret C dX11_odds_44 (⟨⟨nT, n, l, hR⟩, by unfold s_odds; rw [if_pos k8]⟩)
  ·
    have k8 := g_neT h5 c8
    obtain ⟨ut, hut, eut⟩ := x_inR (b := 99999) k8 rfl (by decide)
    have cut : t.toNatClampNeg = ut := by rw [eut, nI_clamp (by omega)]
    refine G_iload_n (i := 2) C 12 dX11_odds_11 rfl rfl rfl ?_
    refine G_iconst (v := 1) C 13 dX11_odds_12 rfl rfl ?_
    refine G_bipush (v := 40) C 15 dX11_odds_13 rfl rfl ?_
    refine G_calli 18 (G_runS C Kc_X11_in KS_X11_78 (by omega) (c_X11_in 0 v 1 40 s) rfl rfl (Nat.le_of_ble_eq_true rfl) rfl dX11_odds_15) rfl (fun x15 s15 h15 => ?_)
    obtain ⟨es15, h15⟩ := h15
    have es15 := es15.symm
    subst es15
    refine G_if_eq C 41 21 dX11_odds_18 rfl rfl (fun c18 => ?_) (fun c18 => ?_)
    ·
      have k18 := h15.symm.trans c18
      refine G_ldc2 (v := (-4611686018427387904)) C 44 w_1164 dX11_odds_41 rfl ?_
      exact G_lret C dX11_odds_44 (⟨⟨nT, n, l, hR⟩, by unfold s_odds; rw [if_neg k8, if_pos k18]⟩)
    ·
      have k18 := g_neT h15 c18
      obtain ⟨uv, guv, huv, euv⟩ := x_inR1 (b := 40) k18 rfl (by decide)
      have cuv : v.toNatClampNeg = uv := by rw [euv, nI_clamp (by omega)]
      refine G_iload_n (i := 3) C 22 dX11_odds_21 rfl rfl rfl ?_
      refine G_iconst (v := 0) C 23 dX11_odds_22 rfl rfl ?_
      refine G_bipush (v := 10) C 25 dX11_odds_23 rfl rfl ?_
      refine G_calli 28 (G_runS C Kc_X11_in KS_X11_78 (by omega) (c_X11_in 0 w 0 10 s) rfl rfl (Nat.le_of_ble_eq_true rfl) rfl dX11_odds_25) rfl (fun x25 s25 h25 => ?_)
      obtain ⟨es25, h25⟩ := h25
      have es25 := es25.symm
      subst es25
      refine G_if_eq C 41 31 dX11_odds_28 rfl rfl (fun c28 => ?_) (fun c28 => ?_)
      ·
        have k28 := h25.symm.trans c28
        refine G_ldc2 (v := (-4611686018427387904)) C 44 w_1164 dX11_odds_41 rfl ?_
        exact G_lret C dX11_odds_44 (⟨⟨nT, n, l, hR⟩, by unfold s_odds; rw [if_neg k8, if_neg k18, if_pos k28]⟩)
      ·
        have k28 := g_neT h25 c28
        refine G_iload C 33 dX11_odds_31 rfl rfl ?_
        refine G_iconst (v := 0) C 34 dX11_odds_33 rfl rfl ?_
        refine G_iconst (v := 1) C 35 dX11_odds_34 rfl rfl ?_
        refine G_calli 38 (G_runS C Kc_X11_in KS_X11_78 (by omega) (c_X11_in 0 q 0 1 s) rfl rfl (Nat.le_of_ble_eq_true rfl) rfl dX11_odds_35) rfl (fun x35 s35 h35 => ?_)
        obtain ⟨es35, h35⟩ := h35
        have es35 := es35.symm
        subst es35
        refine G_if_ne C 45 41 dX11_odds_38 rfl rfl (fun c38 => ?_) (fun c38 => ?_)
        ·
          have k38 := g_neT h35 c38
          refine G_lconst (v := 0) C 46 dX11_odds_45 rfl rfl ?_
          refine G_lstore (L' := [some (.ref (e_ad E 0)), some (.int t), some (.int v), some (.int w), some (.int q), some (.long 0), none, none]) C 48 dX11_odds_46 rfl (Nat.le_of_ble_eq_true rfl) rfl rfl ?_
          refine G_iconst (v := 0) C 49 dX11_odds_48 rfl rfl ?_
          refine G_istore (L' := [some (.ref (e_ad E 0)), some (.int t), some (.int v), some (.int w), some (.int q), some (.long 0), none, some (.int 0)]) C 51 dX11_odds_49 rfl (Nat.le_of_ble_eq_true rfl) rfl rfl ?_
          have L51 : ∀ (f51 : Nat) (k : Nat) (ma : Int64) (y : Int32) (sl51 : gS) (Ema : ma = lN ((x_od TX P n ut w k))) (Ey : y = nI k) (hk : k ≤ uv) (fnl51 : Qn s sl51) (il51 : mI TX nT n l P sl51), uv < k + f51 → GW SM E (gFin SM E (gQl SM (fun r s' => RM TX P B s' ∧ r = s_odds TX P t v w q))) 51 [some (.ref (e_ad E 0)), some (.int t), some (.int v), some (.int w), some (.int q), some (.long ma), none, some (.int y)] [] sl51 := by
            intro f51
            induction f51 with
            | zero =>
              intro k ma y sl51 Ema Ey hk fnl51 il51 hf51
              exact absurd hf51 (by omega)
            | succ f51 ih51 =>
              intro k ma y sl51 Ema Ey hk fnl51 il51 hf51
              refine G_iload C 53 dX11_odds_51 rfl rfl ?_
              refine G_iload_n (i := 2) C 54 dX11_odds_53 rfl rfl rfl ?_
              refine G_icmp_ge C 85 57 dX11_odds_54 rfl rfl (fun c54 => ?_) (fun c54 => ?_)
              ·
                have n54 : ¬ k < uv := fun h => c54 ((g_ltN (a := k) (b := uv) (hx := Ey) (hy := euv) (by omega) (by omega)).mpr h)
                refine G_lload C 87 dX11_odds_85 rfl rfl ?_
                refine G_iload_n (i := 2) C 88 dX11_odds_87 rfl rfl rfl ?_
                refine G_i2l C 89 dX11_odds_88 rfl (fun x88 ex88 => ?_)
                refine G_iload C 91 dX11_odds_89 rfl rfl ?_
                have hq : q = 0 ∨ q = 1 := by
                  obtain ⟨z, hz, ez⟩ := x_inR (b := 1) k38 rfl (by decide)
                  have : z = 0 ∨ z = 1 := by omega
                  rcases this with rfl | rfl
                  · exact Or.inl ez
                  · exact Or.inr ez
                refine G_calll 94 (G_runS C Kc_X11_lowest KS_X11_239 (by omega) (c_X11_lowest 0 (x_od TX P n ut w k) uv (by have := x_od_r TX P n ut w k; omega) guv (by omega) ma x88 q Ema (i_toL ex88 euv (by omega)) hq sl51) rfl rfl (Nat.le_of_ble_eq_true rfl) rfl dX11_odds_91) rfl (fun x91 s91 h91 => ?_)
                obtain ⟨es91, h91⟩ := h91
                have es91 := es91.symm
                subst es91
                exact G_lret C dX11_odds_94 (⟨RM_i hR il51 fnl51, by
                    have e : k = uv := by omega
                    subst e
                    unfold s_odds; rw [if_neg k8, if_neg k18, if_neg k28, if_neg k38, hxn, cut, cuv]; exact h91⟩)
              ·
                have n54 : k < uv := (g_ltN (a := k) (b := uv) (hx := Ey) (hy := euv) (by omega) (by omega)).mp c54
                refine G_lload C 59 dX11_odds_57 rfl rfl ?_
                refine G_aload_n (i := 0) C 60 dX11_odds_59 rfl rfl rfl ?_
                refine G_iload_n (i := 1) C 61 dX11_odds_60 rfl rfl rfl ?_
                refine G_iload C 63 dX11_odds_61 rfl rfl ?_
                refine G_iadd C 64 dX11_odds_63 rfl (fun x63 ex63 => ?_)
                have Nx63 : x63 = nI (ut + k) := g_addN ex63 eut Ey
                refine G_calli 67 (G_runV C Kc_X11_quarters KV_X11_263 (by omega) (by decide) (eM _ _ _) rfl (c_X11_quarters 0 TX nT n l P sl51 il51 x63 (ut + k) (ut + k + 1) Nx63 (by omega) rfl) rfl rfl rfl (Nat.le_of_ble_eq_true rfl) rfl dX11_odds_64) rfl (fun x64 s64 h64 => ?_)
                have fn_1 : Qn s s64 := Qn.tr fnl51 (h64.1.n)
                have i_1 : mI TX nT n l P s64 := h64.2.1
                refine G_iload_n (i := 3) C 68 dX11_odds_67 rfl rfl rfl ?_
                refine G_icmp_lt C 75 71 dX11_odds_68 rfl rfl (fun c68 => ?_) (fun c68 => ?_)
                ·
                  have hod : x_od TX P n ut w (k + 1) = x_od TX P n ut w k := by rw [x_od, if_pos (by rw [← h64.2.2.2]; exact c68)]
                  refine G_lconst (v := 0) C 76 dX11_odds_75 rfl rfl ?_
                  refine G_ladd C 77 dX11_odds_76 rfl (fun x76 ex76 => ?_)
                  have Nx76 : x76 = lN (x_od TX P n ut w k + 0) := l_addN ex76 Ema fa_litL_0
                  refine G_lstore (L' := [some (.ref (e_ad E 0)), some (.int t), some (.int v), some (.int w), some (.int q), some (.long x76), none, some (.int y)]) C 79 dX11_odds_77 rfl (Nat.le_of_ble_eq_true rfl) rfl rfl ?_
                  refine G_iinc (w := 1) C 82 dX11_odds_79 rfl rfl rfl rfl (fun x79 ex79 => ?_)
                  have Nx79 : x79 = nI (k + 1) := g_addN ex79 Ey rfl
                  show GW SM E _ 82 [some (.ref (e_ad E 0)), some (.int t), some (.int v), some (.int w), some (.int q), some (.long x76), none, some (.int x79)] [] s64
                  refine G_goto C 51 dX11_odds_82 rfl ?_
                  exact ih51 (k + 1) x76 x79 s64 (l_cn (a := (x_od TX P n ut w k + 0)) Nx76 (by first | rfl | omega | (simp only [List.length_cons, List.length_drop]; done) | (simp only [List.length_cons, List.length_drop]; omega))) (g_cn (a := (k + 1)) Nx79 (by first | rfl | omega | (simp only [List.length_cons, List.length_drop]; done) | (simp only [List.length_cons, List.length_drop]; omega))) (by omega) fn_1 i_1 (by omega)
                ·
                  have hod : x_od TX P n ut w (k + 1) = x_od TX P n ut w k + 1 := by rw [x_od, if_neg (by rw [← h64.2.2.2]; exact c68)]
                  refine G_lconst (v := 1) C 72 dX11_odds_71 rfl rfl ?_
                  refine G_goto C 76 dX11_odds_72 rfl ?_
                  refine G_ladd C 77 dX11_odds_76 rfl (fun x76 ex76 => ?_)
                  have Nx76 : x76 = lN (x_od TX P n ut w k + 1) := l_addN ex76 Ema fa_litL_1
                  refine G_lstore (L' := [some (.ref (e_ad E 0)), some (.int t), some (.int v), some (.int w), some (.int q), some (.long x76), none, some (.int y)]) C 79 dX11_odds_77 rfl (Nat.le_of_ble_eq_true rfl) rfl rfl ?_
                  refine G_iinc (w := 1) C 82 dX11_odds_79 rfl rfl rfl rfl (fun x79 ex79 => ?_)
                  have Nx79 : x79 = nI (k + 1) := g_addN ex79 Ey rfl
                  show GW SM E _ 82 [some (.ref (e_ad E 0)), some (.int t), some (.int v), some (.int w), some (.int q), some (.long x76), none, some (.int x79)] [] s64
                  refine G_goto C 51 dX11_odds_82 rfl ?_
                  exact ih51 (k + 1) x76 x79 s64 (l_cn (a := (x_od TX P n ut w k + 1)) Nx76 (by first | rfl | omega | (simp only [List.length_cons, List.length_drop]; done) | (simp only [List.length_cons, List.length_drop]; omega))) (g_cn (a := (k + 1)) Nx79 (by first | rfl | omega | (simp only [List.length_cons, List.length_drop]; done) | (simp only [List.length_cons, List.length_drop]; omega))) (by omega) fn_1 i_1 (by omega)
          exact L51 (uv + 1) 0 0 0 s (l_cn (a := 0) fa_litL_0 (by first | rfl | omega)) (g_cn (a := 0) rfl (by first | rfl | omega)) (by omega) fn i (by omega)
        ·
          have k38 := h35.symm.trans c38
          refine G_ldc2 (v := (-4611686018427387904)) C 44 w_1164 dX11_odds_41 rfl ?_
          exact G_lret C dX11_odds_44 (⟨⟨nT, n, l, hR⟩, by unfold s_odds; rw [if_neg k8, if_neg k18, if_neg k28, if_pos k38]⟩)
theorem dX11_image_0 : decode cX11_image 0 = .ok (.aload_n 0, 1) := by decide +kernel
theorem dX11_image_1 : decode cX11_image 1 = .ok (.iconst 1, 1) := by decide +kernel
theorem dX11_image_2 : decode cX11_image 2 = .ok (.putfield 266, 3) := by decide +kernel
theorem dX11_image_5 : decode cX11_image 5 = .ok (.iconst 0, 1) := by decide +kernel
theorem dX11_image_6 : decode cX11_image 6 = .ok (.istore_n 1, 1) := by decide +kernel
theorem dX11_image_7 : decode cX11_image 7 = .ok (.iload_n 1, 1) := by decide +kernel
theorem dX11_image_8 : decode cX11_image 8 = .ok (.bipush 24, 2) := by decide +kernel
theorem dX11_image_10 : decode cX11_image 10 = .ok (.if_icmp .ge 21, 3) := by decide +kernel
theorem dX11_image_13 : decode cX11_image 13 = .ok (.aload_n 0, 1) := by decide +kernel
theorem dX11_image_14 : decode cX11_image 14 = .ok (.getfield 31, 3) := by decide +kernel
theorem dX11_image_17 : decode cX11_image 17 = .ok (.iload_n 1, 1) := by decide +kernel
theorem dX11_image_18 : decode cX11_image 18 = .ok (.aload_n 0, 1) := by decide +kernel
theorem dX11_image_19 : decode cX11_image 19 = .ok (.getfield 16, 3) := by decide +kernel
theorem dX11_image_22 : decode cX11_image 22 = .ok (.iload_n 1, 1) := by decide +kernel
theorem dX11_image_23 : decode cX11_image 23 = .ok (.iaload, 1) := by decide +kernel
theorem dX11_image_24 : decode cX11_image 24 = .ok (.iastore, 1) := by decide +kernel
theorem dX11_image_25 : decode cX11_image 25 = .ok (.iinc 1 1, 3) := by decide +kernel
theorem dX11_image_28 : decode cX11_image 28 = .ok (.goto (-21), 3) := by decide +kernel
theorem dX11_image_31 : decode cX11_image 31 = .ok (.iconst 0, 1) := by decide +kernel
theorem dX11_image_32 : decode cX11_image 32 = .ok (.istore_n 1, 1) := by decide +kernel
theorem dX11_image_33 : decode cX11_image 33 = .ok (.iload_n 1, 1) := by decide +kernel
theorem dX11_image_34 : decode cX11_image 34 = .ok (.bipush 13, 2) := by decide +kernel
theorem dX11_image_36 : decode cX11_image 36 = .ok (.if_icmp .ge 24, 3) := by decide +kernel
theorem dX11_image_39 : decode cX11_image 39 = .ok (.aload_n 0, 1) := by decide +kernel
theorem dX11_image_40 : decode cX11_image 40 = .ok (.getfield 31, 3) := by decide +kernel
theorem dX11_image_43 : decode cX11_image 43 = .ok (.bipush 24, 2) := by decide +kernel
theorem dX11_image_45 : decode cX11_image 45 = .ok (.iload_n 1, 1) := by decide +kernel
theorem dX11_image_46 : decode cX11_image 46 = .ok (.iadd, 1) := by decide +kernel
theorem dX11_image_47 : decode cX11_image 47 = .ok (.aload_n 0, 1) := by decide +kernel
theorem dX11_image_48 : decode cX11_image 48 = .ok (.getfield 19, 3) := by decide +kernel
theorem dX11_image_51 : decode cX11_image 51 = .ok (.iload_n 1, 1) := by decide +kernel
theorem dX11_image_52 : decode cX11_image 52 = .ok (.iaload, 1) := by decide +kernel
theorem dX11_image_53 : decode cX11_image 53 = .ok (.iastore, 1) := by decide +kernel
theorem dX11_image_54 : decode cX11_image 54 = .ok (.iinc 1 1, 3) := by decide +kernel
theorem dX11_image_57 : decode cX11_image 57 = .ok (.goto (-24), 3) := by decide +kernel
theorem dX11_image_60 : decode cX11_image 60 = .ok (.aload_n 0, 1) := by decide +kernel
theorem dX11_image_61 : decode cX11_image 61 = .ok (.getfield 34, 3) := by decide +kernel
theorem dX11_image_64 : decode cX11_image 64 = .ok (.iconst 0, 1) := by decide +kernel
theorem dX11_image_65 : decode cX11_image 65 = .ok (.aload_n 0, 1) := by decide +kernel
theorem dX11_image_66 : decode cX11_image 66 = .ok (.getfield 75, 3) := by decide +kernel
theorem dX11_image_69 : decode cX11_image 69 = .ok (.iastore, 1) := by decide +kernel
theorem dX11_image_70 : decode cX11_image 70 = .ok (.aload_n 0, 1) := by decide +kernel
theorem dX11_image_71 : decode cX11_image 71 = .ok (.getfield 34, 3) := by decide +kernel
theorem dX11_image_74 : decode cX11_image 74 = .ok (.iconst 1, 1) := by decide +kernel
theorem dX11_image_75 : decode cX11_image 75 = .ok (.aload_n 0, 1) := by decide +kernel
theorem dX11_image_76 : decode cX11_image 76 = .ok (.getfield 89, 3) := by decide +kernel
theorem dX11_image_79 : decode cX11_image 79 = .ok (.iastore, 1) := by decide +kernel
theorem dX11_image_80 : decode cX11_image 80 = .ok (.aload_n 0, 1) := by decide +kernel
theorem dX11_image_81 : decode cX11_image 81 = .ok (.getfield 75, 3) := by decide +kernel
theorem dX11_image_84 : decode cX11_image 84 = .ok (.ireturn, 1) := by decide +kernel
set_option maxHeartbeats 4000000 in
set_option maxRecDepth 100000 in
theorem c_X11_image (d : Nat) (TX : gTX) (P B s : gS) (hR0 : RM TX P B s) : gMt SM yX11_image cX11_image 2 (some .int) (d + 1) (fun ad => [.ref (ad 0)]) s (gQi SM (fun r s' => RM TX P (s_img P B) s' ∧ r = P 0 4)) := by
  obtain ⟨nT, n, l, hR⟩ := hR0
  have hI := hR.1
  have hn6 : n ≤ 6 := hI.2.1.2.1
  have hl6 : l < 6 := mI_l6 hI
  have hxn : x_n P = n := x_nOf hI.2.1.1 hn6
  have hbI := hR.2.2
  have hnT6 : nT ≤ 6 := hI.2.1.2.2.2.2.1
  obtain ⟨tn0, htn0, etn0⟩ := hbI.2.1
  refine gMt_of SM_ok (by decide +kernel) (fun ad => [some (.ref (ad 0)), none]) (fun _ => rfl) (fun _ => rfl) (fun _ => Nat.le_of_ble_eq_true rfl) (fun E C0 => ?_)
  have C : gCx SM E RX11 cX11_image 2 (some .int) (d + 1) := C0
  have f : Fr (fun k => k = 0 ∨ k = 8 ∨ k = 9) s s := Fr.rf
  refine G_gz (fun hz => ?_)
  refine G_aload_n (i := 0) C 1 dX11_image_0 rfl rfl rfl ?_
  refine G_iconst (v := 1) C 2 dX11_image_1 rfl rfl ?_
  refine X11_266p C 5 ⟨rfl, rfl⟩ dX11_image_2 rfl (fun s2 es2 => ?_)
  have f_1 : Fr (fun k => k = 0 ∨ k = 8 ∨ k = 9) s s2 := Fr.tr f (Fr.up es2 (by decide))
  have g0 : ∀ j, s2 0 j = if j = 11 then 1 else s 0 j := fun j => by rw [es2, g_up_sj]
  refine G_iconst (v := 0) C 6 dX11_image_5 rfl rfl ?_
  refine G_istore_n (i := 1) (L' := [some (.ref (e_ad E 0)), some (.int 0)]) C 7 dX11_image_6 rfl rfl (Nat.le_of_ble_eq_true rfl) rfl rfl ?_
  have L7 : ∀ (f7 : Nat) (k : Nat) (y : Int32) (sl7 : gS) (Ey : y = nI k) (hk : k ≤ 24) (ha : ∀ j, j < k → sl7 8 j = s 3 j) (fl7 : Fr (fun k => k = 0 ∨ k = 8 ∨ k = 9) s sl7) (g0l7 : ∀ j, sl7 0 j = if j = 11 then 1 else s 0 j), 24 < k + f7 → GW SM E (gFin SM E (gQi SM (fun r s' => RM TX P (s_img P B) s' ∧ r = P 0 4))) 7 [some (.ref (e_ad E 0)), some (.int y)] [] sl7 := by
    intro f7
    induction f7 with
    | zero =>
      intro k y sl7 Ey hk ha fl7 g0l7 hf7
      exact absurd hf7 (by omega)
    | succ f7 ih7 =>
      intro k y sl7 Ey hk ha fl7 g0l7 hf7
      refine G_iload_n (i := 1) C 8 dX11_image_7 rfl rfl rfl ?_
      refine G_bipush (v := 24) C 10 dX11_image_8 rfl rfl ?_
      refine G_icmp_ge C 31 13 dX11_image_10 rfl rfl (fun c10 => ?_) (fun c10 => ?_)
      ·
        have n10 : ¬ k < 24 := fun h => c10 ((g_ltN (a := k) (b := 24) (hx := Ey) (hy := rfl) (by omega) (by omega)).mpr h)
        refine G_iconst (v := 0) C 32 dX11_image_31 rfl rfl ?_
        refine G_istore_n (i := 1) (L' := [some (.ref (e_ad E 0)), some (.int 0)]) C 33 dX11_image_32 rfl rfl (Nat.le_of_ble_eq_true rfl) rfl rfl ?_
        have L33 : ∀ (f33 : Nat) (m : Nat) (y : Int32) (sl33 : gS) (Ey : y = nI m) (hm : m ≤ 13) (ha2 : ∀ j, j < 24 → sl33 8 j = s 3 j) (hb : ∀ j, j < m → sl33 8 (24 + j) = s 4 j) (fl33 : Fr (fun k => k = 0 ∨ k = 8 ∨ k = 9) s sl33) (g0l33 : ∀ j, sl33 0 j = if j = 11 then 1 else s 0 j), 13 < m + f33 → GW SM E (gFin SM E (gQi SM (fun r s' => RM TX P (s_img P B) s' ∧ r = P 0 4))) 33 [some (.ref (e_ad E 0)), some (.int y)] [] sl33 := by
          intro f33
          induction f33 with
          | zero =>
            intro m y sl33 Ey hm ha2 hb fl33 g0l33 hf33
            exact absurd hf33 (by omega)
          | succ f33 ih33 =>
            intro m y sl33 Ey hm ha2 hb fl33 g0l33 hf33
            refine G_iload_n (i := 1) C 34 dX11_image_33 rfl rfl rfl ?_
            refine G_bipush (v := 13) C 36 dX11_image_34 rfl rfl ?_
            refine G_icmp_ge C 60 39 dX11_image_36 rfl rfl (fun c36 => ?_) (fun c36 => ?_)
            ·
              have n36 : ¬ m < 13 := fun h => c36 ((g_ltN (a := m) (b := 13) (hx := Ey) (hy := rfl) (by omega) (by omega)).mpr h)
              refine G_aload_n (i := 0) C 61 dX11_image_60 rfl rfl rfl ?_
              refine X11_34g C 64 dX11_image_61 rfl ?_
              refine G_iconst (v := 0) C 65 dX11_image_64 rfl rfl ?_
              refine G_aload_n (i := 0) C 66 dX11_image_65 rfl rfl rfl ?_
              refine X11_75g C 69 dX11_image_66 rfl (fun x66 ex66 => ?_)
              refine G_iast (n := 2) C 70 (by decide) (fun σ => eMk (by decide) _ _ σ) (0) rfl (by omega) (by decide) (Nat.le_refl _) dX11_image_69 rfl (fun s69 es69 => ?_)
              have f_2 : Fr (fun k => k = 0 ∨ k = 8 ∨ k = 9) s s69 := Fr.tr fl33 (Fr.up es69 (by decide))
              have g0_1 : ∀ j, s69 0 j = if j = 11 then 1 else s 0 j := fun j => by rw [es69, g_up_n (by decide)]; exact g0l33 j
              refine G_aload_n (i := 0) C 71 dX11_image_70 rfl rfl rfl ?_
              refine X11_34g C 74 dX11_image_71 rfl ?_
              refine G_iconst (v := 1) C 75 dX11_image_74 rfl rfl ?_
              refine G_aload_n (i := 0) C 76 dX11_image_75 rfl rfl rfl ?_
              refine X11_89g C 79 dX11_image_76 rfl (fun x76 ex76 => ?_)
              refine G_iast (n := 2) C 80 (by decide) (fun σ => eMk (by decide) _ _ σ) (1) rfl (by omega) (by decide) (Nat.le_refl _) dX11_image_79 rfl (fun s79 es79 => ?_)
              have f_3 : Fr (fun k => k = 0 ∨ k = 8 ∨ k = 9) s s79 := Fr.tr f_2 (Fr.up es79 (by decide))
              have g0_2 : ∀ j, s79 0 j = if j = 11 then 1 else s 0 j := fun j => by rw [es79, g_up_n (by decide)]; exact g0_1 j
              refine G_aload_n (i := 0) C 81 dX11_image_80 rfl rfl rfl ?_
              refine X11_75g C 84 dX11_image_81 rfl (fun x81 ex81 => ?_)
              exact G_iret C dX11_image_84 (⟨⟨nT, n, l, Rm_img hR f_3 (fun j hj => (g0_2 j).trans (if_neg hj)) ((g0_2 11).trans (if_pos rfl)) (fun j hj => by rw [es79, g_up_n (by decide), es69, g_up_n (by decide)]; exact ha2 j hj) (fun j hj => by rw [es79, g_up_n (by decide), es69, g_up_n (by decide)]; exact hb j (by omega)) (by rw [es79, g_up_sj, if_neg (by decide), es69, g_up_sj, if_pos rfl, ex66]; exact (g0l33 0).trans (if_neg (by decide))) (by rw [es79, g_up_sj, if_pos rfl, ex76, es69, g_up_n (by decide)]; exact (g0l33 10).trans (if_neg (by decide))) (fun j hj => gz_m hz (k := 3) hj) (fun j hj => gz_m hz (k := 4) hj)⟩, ex81.trans (((g0_2 0).trans (if_neg (by decide))).trans (mI_v hI 0 4))⟩)
            ·
              have n36 : m < 13 := (g_ltN (a := m) (b := 13) (hx := Ey) (hy := rfl) (by omega) (by omega)).mp c36
              refine G_aload_n (i := 0) C 40 dX11_image_39 rfl rfl rfl ?_
              refine X11_31g C 43 dX11_image_40 rfl ?_
              refine G_bipush (v := 24) C 45 dX11_image_43 rfl rfl ?_
              refine G_iload_n (i := 1) C 46 dX11_image_45 rfl rfl rfl ?_
              refine G_iadd C 47 dX11_image_46 rfl (fun x46 ex46 => ?_)
              have Nx46 : x46 = nI (24 + m) := g_addN ex46 rfl Ey
              refine G_aload_n (i := 0) C 48 dX11_image_47 rfl rfl rfl ?_
              refine X11_19g C 51 dX11_image_48 rfl ?_
              refine G_iload_n (i := 1) C 52 dX11_image_51 rfl rfl rfl ?_
              refine G_iald (n := 13) C 53 (by decide) (eMk (by decide) _ _ _) (m) Ey (by omega) (by decide) dX11_image_52 rfl (fun x52 ex52 => ?_)
              refine G_iast (n := 37) C 54 (by decide) (fun σ => eMk (by decide) _ _ σ) ((24 + m)) Nx46 (by omega) (by decide) (Nat.le_refl _) dX11_image_53 rfl (fun s53 es53 => ?_)
              have f_2 : Fr (fun k => k = 0 ∨ k = 8 ∨ k = 9) s s53 := Fr.tr fl33 (Fr.up es53 (by decide))
              have g0_1 : ∀ j, s53 0 j = if j = 11 then 1 else s 0 j := fun j => by rw [es53, g_up_n (by decide)]; exact g0l33 j
              refine G_iinc (w := 1) C 57 dX11_image_54 rfl rfl rfl rfl (fun x54 ex54 => ?_)
              have Nx54 : x54 = nI (m + 1) := g_addN ex54 Ey rfl
              show GW SM E _ 57 [some (.ref (e_ad E 0)), some (.int x54)] [] s53
              refine G_goto C 33 dX11_image_57 rfl ?_
              exact ih33 (m + 1) x54 s53 (g_cn (a := (m + 1)) Nx54 (by first | rfl | omega | (simp only [List.length_cons, List.length_drop]; done) | (simp only [List.length_cons, List.length_drop]; omega))) (by omega) (fun j hj => by rw [es53, g_up_sj, if_neg (by omega)]; exact ha2 j hj) (fun j hj => by
                rw [es53, g_up_sj]
                by_cases e : j = m
                · rw [if_pos (by omega), e, ex52, fl33 4 (by decide)]
                · rw [if_neg (by omega)]
                  exact hb j (by omega)) f_2 g0_1 (by omega)
        exact L33 (13 + 1) 0 0 sl7 (g_cn (a := 0) rfl (by first | rfl | omega)) (by omega) (fun j hj => ha j (by omega)) (fun j hj => absurd hj (by omega)) fl7 g0l7 (by omega)
      ·
        have n10 : k < 24 := (g_ltN (a := k) (b := 24) (hx := Ey) (hy := rfl) (by omega) (by omega)).mp c10
        refine G_aload_n (i := 0) C 14 dX11_image_13 rfl rfl rfl ?_
        refine X11_31g C 17 dX11_image_14 rfl ?_
        refine G_iload_n (i := 1) C 18 dX11_image_17 rfl rfl rfl ?_
        refine G_aload_n (i := 0) C 19 dX11_image_18 rfl rfl rfl ?_
        refine X11_16g C 22 dX11_image_19 rfl ?_
        refine G_iload_n (i := 1) C 23 dX11_image_22 rfl rfl rfl ?_
        refine G_iald (n := 24) C 24 (by decide) (eMk (by decide) _ _ _) (k) Ey (by omega) (by decide) dX11_image_23 rfl (fun x23 ex23 => ?_)
        refine G_iast (n := 37) C 25 (by decide) (fun σ => eMk (by decide) _ _ σ) (k) Ey (by omega) (by decide) (Nat.le_refl _) dX11_image_24 rfl (fun s24 es24 => ?_)
        have f_2 : Fr (fun k => k = 0 ∨ k = 8 ∨ k = 9) s s24 := Fr.tr fl7 (Fr.up es24 (by decide))
        have g0_1 : ∀ j, s24 0 j = if j = 11 then 1 else s 0 j := fun j => by rw [es24, g_up_n (by decide)]; exact g0l7 j
        refine G_iinc (w := 1) C 28 dX11_image_25 rfl rfl rfl rfl (fun x25 ex25 => ?_)
        have Nx25 : x25 = nI (k + 1) := g_addN ex25 Ey rfl
        show GW SM E _ 28 [some (.ref (e_ad E 0)), some (.int x25)] [] s24
        refine G_goto C 7 dX11_image_28 rfl ?_
        exact ih7 (k + 1) x25 s24 (g_cn (a := (k + 1)) Nx25 (by first | rfl | omega | (simp only [List.length_cons, List.length_drop]; done) | (simp only [List.length_cons, List.length_drop]; omega))) (by omega) (fun j hj => by
          rw [es24, g_up_sj]
          by_cases e : j = k
          · rw [if_pos (by omega), e, ex23, fl7 3 (by decide)]
          · rw [if_neg (by omega)]
            exact ha j (by omega)) f_2 g0_1 (by omega)
  exact L7 (24 + 1) 0 0 s2 (g_cn (a := 0) rfl (by first | rfl | omega)) (by omega) (fun j hj => absurd hj (by omega)) f_1 g0 (by omega)
theorem dX11_back_0 : decode cX11_back 0 = .ok (.aload_n 0, 1) := by decide +kernel
theorem dX11_back_1 : decode cX11_back 1 = .ok (.getfield 266, 3) := by decide +kernel
theorem dX11_back_4 : decode cX11_back 4 = .ok (.ifCond .ne 6, 3) := by decide +kernel
theorem dX11_back_7 : decode cX11_back 7 = .ok (.bipush (-3), 2) := by decide +kernel
theorem dX11_back_9 : decode cX11_back 9 = .ok (.ireturn, 1) := by decide +kernel
theorem dX11_back_10 : decode cX11_back 10 = .ok (.iconst 0, 1) := by decide +kernel
theorem dX11_back_11 : decode cX11_back 11 = .ok (.istore_n 1, 1) := by decide +kernel
theorem dX11_back_12 : decode cX11_back 12 = .ok (.iload_n 1, 1) := by decide +kernel
theorem dX11_back_13 : decode cX11_back 13 = .ok (.bipush 24, 2) := by decide +kernel
theorem dX11_back_15 : decode cX11_back 15 = .ok (.if_icmp .ge 21, 3) := by decide +kernel
theorem dX11_back_18 : decode cX11_back 18 = .ok (.aload_n 0, 1) := by decide +kernel
theorem dX11_back_19 : decode cX11_back 19 = .ok (.getfield 16, 3) := by decide +kernel
theorem dX11_back_22 : decode cX11_back 22 = .ok (.iload_n 1, 1) := by decide +kernel
theorem dX11_back_23 : decode cX11_back 23 = .ok (.aload_n 0, 1) := by decide +kernel
theorem dX11_back_24 : decode cX11_back 24 = .ok (.getfield 31, 3) := by decide +kernel
theorem dX11_back_27 : decode cX11_back 27 = .ok (.iload_n 1, 1) := by decide +kernel
theorem dX11_back_28 : decode cX11_back 28 = .ok (.iaload, 1) := by decide +kernel
theorem dX11_back_29 : decode cX11_back 29 = .ok (.iastore, 1) := by decide +kernel
theorem dX11_back_30 : decode cX11_back 30 = .ok (.iinc 1 1, 3) := by decide +kernel
theorem dX11_back_33 : decode cX11_back 33 = .ok (.goto (-21), 3) := by decide +kernel
theorem dX11_back_36 : decode cX11_back 36 = .ok (.iconst 0, 1) := by decide +kernel
theorem dX11_back_37 : decode cX11_back 37 = .ok (.istore_n 1, 1) := by decide +kernel
theorem dX11_back_38 : decode cX11_back 38 = .ok (.iload_n 1, 1) := by decide +kernel
theorem dX11_back_39 : decode cX11_back 39 = .ok (.bipush 13, 2) := by decide +kernel
theorem dX11_back_41 : decode cX11_back 41 = .ok (.if_icmp .ge 24, 3) := by decide +kernel
theorem dX11_back_44 : decode cX11_back 44 = .ok (.aload_n 0, 1) := by decide +kernel
theorem dX11_back_45 : decode cX11_back 45 = .ok (.getfield 19, 3) := by decide +kernel
theorem dX11_back_48 : decode cX11_back 48 = .ok (.iload_n 1, 1) := by decide +kernel
theorem dX11_back_49 : decode cX11_back 49 = .ok (.aload_n 0, 1) := by decide +kernel
theorem dX11_back_50 : decode cX11_back 50 = .ok (.getfield 31, 3) := by decide +kernel
theorem dX11_back_53 : decode cX11_back 53 = .ok (.bipush 24, 2) := by decide +kernel
theorem dX11_back_55 : decode cX11_back 55 = .ok (.iload_n 1, 1) := by decide +kernel
theorem dX11_back_56 : decode cX11_back 56 = .ok (.iadd, 1) := by decide +kernel
theorem dX11_back_57 : decode cX11_back 57 = .ok (.iaload, 1) := by decide +kernel
theorem dX11_back_58 : decode cX11_back 58 = .ok (.iastore, 1) := by decide +kernel
theorem dX11_back_59 : decode cX11_back 59 = .ok (.iinc 1 1, 3) := by decide +kernel
theorem dX11_back_62 : decode cX11_back 62 = .ok (.goto (-24), 3) := by decide +kernel
theorem dX11_back_65 : decode cX11_back 65 = .ok (.aload_n 0, 1) := by decide +kernel
theorem dX11_back_66 : decode cX11_back 66 = .ok (.aload_n 0, 1) := by decide +kernel
theorem dX11_back_67 : decode cX11_back 67 = .ok (.getfield 34, 3) := by decide +kernel
theorem dX11_back_70 : decode cX11_back 70 = .ok (.iconst 0, 1) := by decide +kernel
theorem dX11_back_71 : decode cX11_back 71 = .ok (.iaload, 1) := by decide +kernel
theorem dX11_back_72 : decode cX11_back 72 = .ok (.putfield 75, 3) := by decide +kernel
theorem dX11_back_75 : decode cX11_back 75 = .ok (.aload_n 0, 1) := by decide +kernel
theorem dX11_back_76 : decode cX11_back 76 = .ok (.aload_n 0, 1) := by decide +kernel
theorem dX11_back_77 : decode cX11_back 77 = .ok (.getfield 34, 3) := by decide +kernel
theorem dX11_back_80 : decode cX11_back 80 = .ok (.iconst 1, 1) := by decide +kernel
theorem dX11_back_81 : decode cX11_back 81 = .ok (.iaload, 1) := by decide +kernel
theorem dX11_back_82 : decode cX11_back 82 = .ok (.putfield 89, 3) := by decide +kernel
theorem dX11_back_85 : decode cX11_back 85 = .ok (.aload_n 0, 1) := by decide +kernel
theorem dX11_back_86 : decode cX11_back 86 = .ok (.getfield 75, 3) := by decide +kernel
theorem dX11_back_89 : decode cX11_back 89 = .ok (.ireturn, 1) := by decide +kernel
set_option maxHeartbeats 4000000 in
set_option maxRecDepth 100000 in
theorem c_X11_back (d : Nat) (TX : gTX) (P B s : gS) (hR0 : RM TX P B s) : gMt SM yX11_back cX11_back 2 (some .int) (d + 1) (fun ad => [.ref (ad 0)]) s (gQi SM (fun r s' => RM TX (s_baP P B) B s' ∧ r = s_baR B)) := by
  obtain ⟨nT, n, l, hR⟩ := hR0
  have hI := hR.1
  have hn6 : n ≤ 6 := hI.2.1.2.1
  have hl6 : l < 6 := mI_l6 hI
  have hxn : x_n P = n := x_nOf hI.2.1.1 hn6
  have hbI := hR.2.2
  have hnT6 : nT ≤ 6 := hI.2.1.2.2.2.2.1
  obtain ⟨tn0, htn0, etn0⟩ := hbI.2.1
  refine gMt_of SM_ok (by decide +kernel) (fun ad => [some (.ref (ad 0)), none]) (fun _ => rfl) (fun _ => rfl) (fun _ => Nat.le_of_ble_eq_true rfl) (fun E C0 => ?_)
  have C : gCx SM E RX11 cX11_back 2 (some .int) (d + 1) := C0
  have f : Fr (fun k => k = 0 ∨ k = 3 ∨ k = 4) s s := Fr.rf
  refine G_gz (fun hz => ?_)
  refine G_aload_n (i := 0) C 1 dX11_back_0 rfl rfl rfl ?_
  refine X11_266g C 4 dX11_back_1 rfl (fun x1 ex1 => ?_)
  have Sx1 : x1 = B 0 2 := ex1.trans (congrFun (congrFun hR.2.1 0) 2)
  refine G_if_ne C 10 7 dX11_back_4 rfl rfl (fun c4 => ?_) (fun c4 => ?_)
  ·
    have hz0 : ¬ B 0 2 = 0 := fun w => c4 (Sx1.trans w)
    have hq : B 0 2 = 1 := hbI.2.2.2.1.resolve_left hz0
    refine G_iconst (v := 0) C 11 dX11_back_10 rfl rfl ?_
    refine G_istore_n (i := 1) (L' := [some (.ref (e_ad E 0)), some (.int 0)]) C 12 dX11_back_11 rfl rfl (Nat.le_of_ble_eq_true rfl) rfl rfl ?_
    have L12 : ∀ (f12 : Nat) (k : Nat) (y : Int32) (sl12 : gS) (Ey : y = nI k) (hk : k ≤ 24) (h0 : sl12 0 = s 0) (hc : ∀ j, 24 ≤ j → sl12 3 j = 0) (h4 : sl12 4 = s 4) (ha : ∀ j, j < k → sl12 3 j = s 8 j) (fl12 : Fr (fun k => k = 0 ∨ k = 3 ∨ k = 4) s sl12), 24 < k + f12 → GW SM E (gFin SM E (gQi SM (fun r s' => RM TX (s_baP P B) B s' ∧ r = s_baR B))) 12 [some (.ref (e_ad E 0)), some (.int y)] [] sl12 := by
      intro f12
      induction f12 with
      | zero =>
        intro k y sl12 Ey hk h0 hc h4 ha fl12 hf12
        exact absurd hf12 (by omega)
      | succ f12 ih12 =>
        intro k y sl12 Ey hk h0 hc h4 ha fl12 hf12
        refine G_iload_n (i := 1) C 13 dX11_back_12 rfl rfl rfl ?_
        refine G_bipush (v := 24) C 15 dX11_back_13 rfl rfl ?_
        refine G_icmp_ge C 36 18 dX11_back_15 rfl rfl (fun c15 => ?_) (fun c15 => ?_)
        ·
          have n15 : ¬ k < 24 := fun h => c15 ((g_ltN (a := k) (b := 24) (hx := Ey) (hy := rfl) (by omega) (by omega)).mpr h)
          refine G_iconst (v := 0) C 37 dX11_back_36 rfl rfl ?_
          refine G_istore_n (i := 1) (L' := [some (.ref (e_ad E 0)), some (.int 0)]) C 38 dX11_back_37 rfl rfl (Nat.le_of_ble_eq_true rfl) rfl rfl ?_
          have L38 : ∀ (f38 : Nat) (m : Nat) (y : Int32) (sl38 : gS) (Ey : y = nI m) (hm : m ≤ 13) (h02 : sl38 0 = s 0) (hc2 : ∀ j, 24 ≤ j → sl38 3 j = 0) (ha2 : ∀ j, j < 24 → sl38 3 j = s 8 j) (hd : ∀ j, 13 ≤ j → sl38 4 j = 0) (hb : ∀ j, j < m → sl38 4 j = s 8 (24 + j)) (fl38 : Fr (fun k => k = 0 ∨ k = 3 ∨ k = 4) s sl38), 13 < m + f38 → GW SM E (gFin SM E (gQi SM (fun r s' => RM TX (s_baP P B) B s' ∧ r = s_baR B))) 38 [some (.ref (e_ad E 0)), some (.int y)] [] sl38 := by
            intro f38
            induction f38 with
            | zero =>
              intro m y sl38 Ey hm h02 hc2 ha2 hd hb fl38 hf38
              exact absurd hf38 (by omega)
            | succ f38 ih38 =>
              intro m y sl38 Ey hm h02 hc2 ha2 hd hb fl38 hf38
              refine G_iload_n (i := 1) C 39 dX11_back_38 rfl rfl rfl ?_
              refine G_bipush (v := 13) C 41 dX11_back_39 rfl rfl ?_
              refine G_icmp_ge C 65 44 dX11_back_41 rfl rfl (fun c41 => ?_) (fun c41 => ?_)
              ·
                have n41 : ¬ m < 13 := fun h => c41 ((g_ltN (a := m) (b := 13) (hx := Ey) (hy := rfl) (by omega) (by omega)).mpr h)
                refine G_aload_n (i := 0) C 66 dX11_back_65 rfl rfl rfl ?_
                refine G_aload_n (i := 0) C 67 dX11_back_66 rfl rfl rfl ?_
                refine X11_34g C 70 dX11_back_67 rfl ?_
                refine G_iconst (v := 0) C 71 dX11_back_70 rfl rfl ?_
                refine G_iald (n := 2) C 72 (by decide) (eMk (by decide) _ _ _) (0) rfl (by omega) (by decide) dX11_back_71 rfl (fun x71 ex71 => ?_)
                refine X11_75p C 75 dX11_back_72 rfl (fun s72 es72 => ?_)
                have f_1 : Fr (fun k => k = 0 ∨ k = 3 ∨ k = 4) s s72 := Fr.tr fl38 (Fr.up es72 (by decide))
                refine G_aload_n (i := 0) C 76 dX11_back_75 rfl rfl rfl ?_
                refine G_aload_n (i := 0) C 77 dX11_back_76 rfl rfl rfl ?_
                refine X11_34g C 80 dX11_back_77 rfl ?_
                refine G_iconst (v := 1) C 81 dX11_back_80 rfl rfl ?_
                refine G_iald (n := 2) C 82 (by decide) (eMk (by decide) _ _ _) (1) rfl (by omega) (by decide) dX11_back_81 rfl (fun x81 ex81 => ?_)
                refine X11_89p C 85 dX11_back_82 rfl (fun s82 es82 => ?_)
                have f_2 : Fr (fun k => k = 0 ∨ k = 3 ∨ k = 4) s s82 := Fr.tr f_1 (Fr.up es82 (by decide))
                have hRB := RM_bac (s' := s82) hR hq f_2 (fun j a b => by rw [es82, g_up_sj, if_neg b, es72, g_up_sj, if_neg a, h02]) (fun j hj => by rw [es82, g_up_n (by decide), es72, g_up_n (by decide)]; exact ha2 j hj) (fun j hj => by rw [es82, g_up_n (by decide), es72, g_up_n (by decide)]; exact hb j (by omega)) (fun j hj => by rw [es82, g_up_n (by decide), es72, g_up_n (by decide)]; exact hc2 j hj) (fun j hj => by rw [es82, g_up_n (by decide), es72, g_up_n (by decide)]; exact hd j hj) (by rw [es82, g_up_sj, if_neg (by decide), es72, g_up_sj, if_pos rfl, ex71, fl38 9 (by decide)]) (by rw [es82, g_up_sj, if_pos rfl, ex81, es72, g_up_n (by decide), fl38 9 (by decide)])
                refine G_aload_n (i := 0) C 86 dX11_back_85 rfl rfl rfl ?_
                refine X11_75g C 89 dX11_back_86 rfl (fun x86 ex86 => ?_)
                exact G_iret C dX11_back_89 (⟨by
                    unfold s_baP; rw [if_neg hz0]; exact hRB.1, by
                    unfold s_baR; rw [if_neg hz0]; exact ex86.trans hRB.2⟩)
              ·
                have n41 : m < 13 := (g_ltN (a := m) (b := 13) (hx := Ey) (hy := rfl) (by omega) (by omega)).mp c41
                refine G_aload_n (i := 0) C 45 dX11_back_44 rfl rfl rfl ?_
                refine X11_19g C 48 dX11_back_45 rfl ?_
                refine G_iload_n (i := 1) C 49 dX11_back_48 rfl rfl rfl ?_
                refine G_aload_n (i := 0) C 50 dX11_back_49 rfl rfl rfl ?_
                refine X11_31g C 53 dX11_back_50 rfl ?_
                refine G_bipush (v := 24) C 55 dX11_back_53 rfl rfl ?_
                refine G_iload_n (i := 1) C 56 dX11_back_55 rfl rfl rfl ?_
                refine G_iadd C 57 dX11_back_56 rfl (fun x56 ex56 => ?_)
                have Nx56 : x56 = nI (24 + m) := g_addN ex56 rfl Ey
                refine G_iald (n := 37) C 58 (by decide) (eMk (by decide) _ _ _) ((24 + m)) Nx56 (by omega) (by decide) dX11_back_57 rfl (fun x57 ex57 => ?_)
                refine G_iast (n := 13) C 59 (by decide) (fun σ => eMk (by decide) _ _ σ) (m) Ey (by omega) (by decide) (Nat.le_refl _) dX11_back_58 rfl (fun s58 es58 => ?_)
                have f_1 : Fr (fun k => k = 0 ∨ k = 3 ∨ k = 4) s s58 := Fr.tr fl38 (Fr.up es58 (by decide))
                refine G_iinc (w := 1) C 62 dX11_back_59 rfl rfl rfl rfl (fun x59 ex59 => ?_)
                have Nx59 : x59 = nI (m + 1) := g_addN ex59 Ey rfl
                show GW SM E _ 62 [some (.ref (e_ad E 0)), some (.int x59)] [] s58
                refine G_goto C 38 dX11_back_62 rfl ?_
                exact ih38 (m + 1) x59 s58 (g_cn (a := (m + 1)) Nx59 (by first | rfl | omega | (simp only [List.length_cons, List.length_drop]; done) | (simp only [List.length_cons, List.length_drop]; omega))) (by omega) (by rw [es58, g_up_n (by decide)]; exact h02) (fun j hj => by rw [es58, g_up_n (by decide)]; exact hc2 j hj) (fun j hj => by rw [es58, g_up_n (by decide)]; exact ha2 j hj) (fun j hj => by rw [es58, g_up_sj, if_neg (by omega)]; exact hd j hj) (fun j hj => by
                  rw [es58, g_up_sj]
                  by_cases e : j = m
                  · rw [if_pos (by omega), e, ex57, fl38 8 (by decide)]
                  · rw [if_neg (by omega)]
                    exact hb j (by omega)) f_1 (by omega)
          exact L38 (13 + 1) 0 0 sl12 (g_cn (a := 0) rfl (by first | rfl | omega)) (by omega) (h0) (hc) (fun j hj => ha j (by omega)) (fun j hj => by rw [h4]; exact gz_m hz (k := 4) hj) (fun j hj => absurd hj (by omega)) fl12 (by omega)
        ·
          have n15 : k < 24 := (g_ltN (a := k) (b := 24) (hx := Ey) (hy := rfl) (by omega) (by omega)).mp c15
          refine G_aload_n (i := 0) C 19 dX11_back_18 rfl rfl rfl ?_
          refine X11_16g C 22 dX11_back_19 rfl ?_
          refine G_iload_n (i := 1) C 23 dX11_back_22 rfl rfl rfl ?_
          refine G_aload_n (i := 0) C 24 dX11_back_23 rfl rfl rfl ?_
          refine X11_31g C 27 dX11_back_24 rfl ?_
          refine G_iload_n (i := 1) C 28 dX11_back_27 rfl rfl rfl ?_
          refine G_iald (n := 37) C 29 (by decide) (eMk (by decide) _ _ _) (k) Ey (by omega) (by decide) dX11_back_28 rfl (fun x28 ex28 => ?_)
          refine G_iast (n := 24) C 30 (by decide) (fun σ => eMk (by decide) _ _ σ) (k) Ey (by omega) (by decide) (Nat.le_refl _) dX11_back_29 rfl (fun s29 es29 => ?_)
          have f_1 : Fr (fun k => k = 0 ∨ k = 3 ∨ k = 4) s s29 := Fr.tr fl12 (Fr.up es29 (by decide))
          refine G_iinc (w := 1) C 33 dX11_back_30 rfl rfl rfl rfl (fun x30 ex30 => ?_)
          have Nx30 : x30 = nI (k + 1) := g_addN ex30 Ey rfl
          show GW SM E _ 33 [some (.ref (e_ad E 0)), some (.int x30)] [] s29
          refine G_goto C 12 dX11_back_33 rfl ?_
          exact ih12 (k + 1) x30 s29 (g_cn (a := (k + 1)) Nx30 (by first | rfl | omega | (simp only [List.length_cons, List.length_drop]; done) | (simp only [List.length_cons, List.length_drop]; omega))) (by omega) (by rw [es29, g_up_n (by decide)]; exact h0) (fun j hj => by rw [es29, g_up_sj, if_neg (by omega)]; exact hc j hj) (by rw [es29, g_up_n (by decide)]; exact h4) (fun j hj => by
            rw [es29, g_up_sj]
            by_cases e : j = k
            · rw [if_pos (by omega), e, ex28, fl12 8 (by decide)]
            · rw [if_neg (by omega)]
              exact ha j (by omega)) f_1 (by omega)
    exact L12 (24 + 1) 0 0 s (g_cn (a := 0) rfl (by first | rfl | omega)) (by omega) (rfl) (fun j hj => gz_m hz (k := 3) hj) (rfl) (fun j hj => absurd hj (by omega)) f (by omega)
  ·
    refine G_bipush (v := (-3)) C 9 dX11_back_7 rfl rfl ?_
    exact G_iret C dX11_back_9 (⟨by unfold s_baP; rw [if_pos (Sx1.symm.trans c4)]; exact ⟨nT, n, l, hR⟩, by unfold s_baR; rw [if_pos (Sx1.symm.trans c4)]⟩)
