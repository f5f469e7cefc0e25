theorem i_subZ {z b : Nat} (hz : z ≤ 1000) (hb : b < 2 ^ 31) : (nI z - nI b).toInt = (z : Int) - b := by
  have q1 := nI_toInt (n := z) (by omega)
  have q2 := nI_toInt (n := b) (by omega)
  rw [Int32.toInt_sub, q1, q2]
  exact Int.bmod_eq_of_le_mul_two (by omega) (by omega)
theorem hol_i {z : Nat} {i m : Int32} (hz : z ≤ 1000) (h1 : ¬ m < 0) (h2 : ¬ i < 0) : x_hol (nI z) i m = 0 ↔ nI z < i ∨ nI z - i < m := by
  obtain ⟨a, ha, rfl⟩ := nI_of h2
  obtain ⟨b, hb, rfl⟩ := nI_of h1
  have e1 := i_subZ (z := z) (b := b) hz hb
  have e2 := i_subZ (z := z) (b := a) hz ha
  unfold x_hol
  rw [if_neg h2, if_neg h1]
  simp only [Int32.lt_iff_toInt_lt, e1, e2, nI_toInt ha, nI_toInt hb, nI_toInt (n := z) (by omega)]
  by_cases h : (z : Int) - b < a
  · rw [if_pos h]
    exact ⟨fun _ => by omega, fun _ => rfl⟩
  · rw [if_neg h]
    exact ⟨fun q => absurd q (by decide), fun q => by omega⟩
theorem x_isOf6 : ∀ k, k < 6 → x_isOf (nI k) 6 = 0 := by decide +kernel
theorem dX11_sheet_0 : decode cX11_sheet 0 = .ok (.iload_n 1, 1) := by decide +kernel
theorem dX11_sheet_1 : decode cX11_sheet 1 = .ok (.iconst 0, 1) := by decide +kernel
theorem dX11_sheet_2 : decode cX11_sheet 2 = .ok (.iconst 3, 1) := by decide +kernel
theorem dX11_sheet_3 : decode cX11_sheet 3 = .ok (.invokestatic 78, 3) := by decide +kernel
theorem dX11_sheet_6 : decode cX11_sheet 6 = .ok (.ifCond .eq 23, 3) := by decide +kernel
theorem dX11_sheet_9 : decode cX11_sheet 9 = .ok (.iload_n 2, 1) := by decide +kernel
theorem dX11_sheet_10 : decode cX11_sheet 10 = .ok (.iconst (-1), 1) := by decide +kernel
theorem dX11_sheet_11 : decode cX11_sheet 11 = .ok (.iconst 2, 1) := by decide +kernel
theorem dX11_sheet_12 : decode cX11_sheet 12 = .ok (.invokestatic 78, 3) := by decide +kernel
theorem dX11_sheet_15 : decode cX11_sheet 15 = .ok (.ifCond .eq 14, 3) := by decide +kernel
theorem dX11_sheet_18 : decode cX11_sheet 18 = .ok (.iload_n 2, 1) := by decide +kernel
theorem dX11_sheet_19 : decode cX11_sheet 19 = .ok (.iconst (-1), 1) := by decide +kernel
theorem dX11_sheet_20 : decode cX11_sheet 20 = .ok (.if_icmp .eq 12, 3) := by decide +kernel
theorem dX11_sheet_23 : decode cX11_sheet 23 = .ok (.iload_n 3, 1) := by decide +kernel
theorem dX11_sheet_24 : decode cX11_sheet 24 = .ok (.bipush 40, 2) := by decide +kernel
theorem dX11_sheet_26 : decode cX11_sheet 26 = .ok (.if_icmp .le 6, 3) := by decide +kernel
theorem dX11_sheet_29 : decode cX11_sheet 29 = .ok (.bipush (-2), 2) := by decide +kernel
theorem dX11_sheet_31 : decode cX11_sheet 31 = .ok (.ireturn, 1) := by decide +kernel
theorem dX11_sheet_32 : decode cX11_sheet 32 = .ok (.iload_n 2, 1) := by decide +kernel
theorem dX11_sheet_33 : decode cX11_sheet 33 = .ok (.iconst (-1), 1) := by decide +kernel
theorem dX11_sheet_34 : decode cX11_sheet 34 = .ok (.if_icmp .eq 10, 3) := by decide +kernel
theorem dX11_sheet_37 : decode cX11_sheet 37 = .ok (.iload_n 3, 1) := by decide +kernel
theorem dX11_sheet_38 : decode cX11_sheet 38 = .ok (.ifCond .ge 6, 3) := by decide +kernel
theorem dX11_sheet_41 : decode cX11_sheet 41 = .ok (.bipush (-14), 2) := by decide +kernel
theorem dX11_sheet_43 : decode cX11_sheet 43 = .ok (.ireturn, 1) := by decide +kernel
theorem dX11_sheet_44 : decode cX11_sheet 44 = .ok (.aload_n 0, 1) := by decide +kernel
theorem dX11_sheet_45 : decode cX11_sheet 45 = .ok (.getfield 37, 3) := by decide +kernel
theorem dX11_sheet_48 : decode cX11_sheet 48 = .ok (.iload_n 1, 1) := by decide +kernel
theorem dX11_sheet_49 : decode cX11_sheet 49 = .ok (.iload_n 2, 1) := by decide +kernel
theorem dX11_sheet_50 : decode cX11_sheet 50 = .ok (.iastore, 1) := by decide +kernel
theorem dX11_sheet_51 : decode cX11_sheet 51 = .ok (.aload_n 0, 1) := by decide +kernel
theorem dX11_sheet_52 : decode cX11_sheet 52 = .ok (.getfield 40, 3) := by decide +kernel
theorem dX11_sheet_55 : decode cX11_sheet 55 = .ok (.iload_n 1, 1) := by decide +kernel
theorem dX11_sheet_56 : decode cX11_sheet 56 = .ok (.iload_n 2, 1) := by decide +kernel
theorem dX11_sheet_57 : decode cX11_sheet 57 = .ok (.iconst (-1), 1) := by decide +kernel
theorem dX11_sheet_58 : decode cX11_sheet 58 = .ok (.if_icmp .ne 7, 3) := by decide +kernel
theorem dX11_sheet_61 : decode cX11_sheet 61 = .ok (.iconst 0, 1) := by decide +kernel
theorem dX11_sheet_62 : decode cX11_sheet 62 = .ok (.goto 4, 3) := by decide +kernel
theorem dX11_sheet_65 : decode cX11_sheet 65 = .ok (.iload_n 3, 1) := by decide +kernel
theorem dX11_sheet_66 : decode cX11_sheet 66 = .ok (.iastore, 1) := by decide +kernel
theorem dX11_sheet_67 : decode cX11_sheet 67 = .ok (.iconst 0, 1) := by decide +kernel
theorem dX11_sheet_68 : decode cX11_sheet 68 = .ok (.istore 4, 2) := by decide +kernel
theorem dX11_sheet_70 : decode cX11_sheet 70 = .ok (.iload 4, 2) := by decide +kernel
theorem dX11_sheet_72 : decode cX11_sheet 72 = .ok (.bipush 40, 2) := by decide +kernel
theorem dX11_sheet_74 : decode cX11_sheet 74 = .ok (.if_icmp .ge 22, 3) := by decide +kernel
theorem dX11_sheet_77 : decode cX11_sheet 77 = .ok (.aload_n 0, 1) := by decide +kernel
theorem dX11_sheet_78 : decode cX11_sheet 78 = .ok (.getfield 43, 3) := by decide +kernel
theorem dX11_sheet_81 : decode cX11_sheet 81 = .ok (.bipush 40, 2) := by decide +kernel
theorem dX11_sheet_83 : decode cX11_sheet 83 = .ok (.iload_n 1, 1) := by decide +kernel
theorem dX11_sheet_84 : decode cX11_sheet 84 = .ok (.imul, 1) := by decide +kernel
theorem dX11_sheet_85 : decode cX11_sheet 85 = .ok (.iload 4, 2) := by decide +kernel
theorem dX11_sheet_87 : decode cX11_sheet 87 = .ok (.iadd, 1) := by decide +kernel
theorem dX11_sheet_88 : decode cX11_sheet 88 = .ok (.iconst 0, 1) := by decide +kernel
theorem dX11_sheet_89 : decode cX11_sheet 89 = .ok (.iastore, 1) := by decide +kernel
theorem dX11_sheet_90 : decode cX11_sheet 90 = .ok (.iinc 4 1, 3) := by decide +kernel
theorem dX11_sheet_93 : decode cX11_sheet 93 = .ok (.goto (-23), 3) := by decide +kernel
theorem dX11_sheet_96 : decode cX11_sheet 96 = .ok (.iconst 1, 1) := by decide +kernel
theorem dX11_sheet_97 : decode cX11_sheet 97 = .ok (.ireturn, 1) := by decide +kernel
set_option maxHeartbeats 4000000 in
set_option maxRecDepth 100000 in
theorem c_X11_sheet (d : Nat) (TX : gTX) (P B s : gS) (hR0 : RM TX P B s) (t q m : Int32) : gMt SM yX11_sheet cX11_sheet 5 (some .int) (d + 2) (fun ad => [.ref (ad 0), .int t, .int q, .int m]) s (gQi SM (fun r s' => RM TX P (s_shB B t q m) s' ∧ r = s_shR t q m)) := by
  obtain ⟨nT, n, l, hR⟩ := hR0
  have hI := hR.1
  have hn6 : n ≤ 6 := hI.2.1.2.1
  have hl6 : l < 6 := mI_l6 hI
  have hxn : x_n P = n := x_nOf hI.2.1.1 hn6
  have hbI := hR.2.2
  have hnT6 : nT ≤ 6 := hI.2.1.2.2.2.2.1
  obtain ⟨tn0, htn0, etn0⟩ := hbI.2.1
  refine gMt_of SM_ok (by decide +kernel) (fun ad => [some (.ref (ad 0)), some (.int t), some (.int q), some (.int m), none]) (fun _ => rfl) (fun _ => rfl) (fun _ => Nat.le_of_ble_eq_true rfl) (fun E C0 => ?_)
  have C : gCx SM E RX11 cX11_sheet 5 (some .int) (d + 2) := C0
  have fz : Fr mF s s := Fr.rf
  have i : mI TX nT n l P s := hI
  refine G_iload_n (i := 1) C 1 dX11_sheet_0 rfl rfl rfl ?_
  refine G_iconst (v := 0) C 2 dX11_sheet_1 rfl rfl ?_
  refine G_iconst (v := 3) C 3 dX11_sheet_2 rfl rfl ?_
  refine G_calli 6 (G_runS C Kc_X11_in KS_X11_78 (by omega) (c_X11_in 0 t 0 3 s) rfl rfl (Nat.le_of_ble_eq_true rfl) rfl dX11_sheet_3) rfl (fun x3 s3 h3 => ?_)
  obtain ⟨es3, h3⟩ := h3
  have es3 := es3.symm
  subst es3
  refine G_if_eq C 29 9 dX11_sheet_6 rfl rfl (fun c6 => ?_) (fun c6 => ?_)
  ·
    have k6 := h3.symm.trans c6
    refine G_bipush (v := (-2)) C 31 dX11_sheet_29 rfl rfl ?_
    exact G_iret C dX11_sheet_31 (⟨by unfold s_shB; rw [if_neg (by unfold s_shR; rw [if_pos k6]; decide)]; exact ⟨nT, n, l, hR⟩, by unfold s_shR; rw [if_pos k6]⟩)
  ·
    have k6 := g_neT h3 c6
    obtain ⟨ut, hut, eut⟩ := x_inR (b := 3) k6 rfl (by decide)
    have cut : t.toNatClampNeg = ut := by rw [eut, nI_clamp (by omega)]
    refine G_iload_n (i := 2) C 10 dX11_sheet_9 rfl rfl rfl ?_
    refine G_iconst (v := (-1)) C 11 dX11_sheet_10 rfl rfl ?_
    refine G_iconst (v := 2) C 12 dX11_sheet_11 rfl rfl ?_
    refine G_calli 15 (G_runS C Kc_X11_in KS_X11_78 (by omega) (c_X11_in 0 q (-1) 2 s) rfl rfl (Nat.le_of_ble_eq_true rfl) rfl dX11_sheet_12) rfl (fun x12 s12 h12 => ?_)
    obtain ⟨es12, h12⟩ := h12
    have es12 := es12.symm
    subst es12
    refine G_if_eq C 29 18 dX11_sheet_15 rfl rfl (fun c15 => ?_) (fun c15 => ?_)
    ·
      have k15 := h12.symm.trans c15
      refine G_bipush (v := (-2)) C 31 dX11_sheet_29 rfl rfl ?_
      exact G_iret C dX11_sheet_31 (⟨by unfold s_shB; rw [if_neg (by unfold s_shR; rw [if_neg k6, if_pos k15]; decide)]; exact ⟨nT, n, l, hR⟩, by unfold s_shR; rw [if_neg k6, if_pos k15]⟩)
    ·
      have k15 := g_neT h12 c15
      refine G_iload_n (i := 2) C 19 dX11_sheet_18 rfl rfl rfl ?_
      refine G_iconst (v := (-1)) C 20 dX11_sheet_19 rfl rfl ?_
      refine G_icmp_eq C 32 23 dX11_sheet_20 rfl rfl (fun c20 => ?_) (fun c20 => ?_)
      ·
        refine G_iload_n (i := 2) C 33 dX11_sheet_32 rfl rfl rfl ?_
        refine G_iconst (v := (-1)) C 34 dX11_sheet_33 rfl rfl ?_
        refine G_icmp_eq C 44 37 dX11_sheet_34 rfl rfl (fun c34 => ?_) (fun c34 => ?_)
        ·
          have no : ∀ i, (∀ j, j < 40 → i ≠ 40 * ut + j) → s 12 i = s 12 i := fun _ _ => rfl
          refine G_aload_n (i := 0) C 45 dX11_sheet_44 rfl rfl rfl ?_
          refine X11_37g C 48 dX11_sheet_45 rfl ?_
          refine G_iload_n (i := 1) C 49 dX11_sheet_48 rfl rfl rfl ?_
          refine G_iload_n (i := 2) C 50 dX11_sheet_49 rfl rfl rfl ?_
          refine G_iast (n := 4) C 51 (by decide) (fun σ => eMk (by decide) _ _ σ) (ut) eut (by omega) (by decide) (Nat.le_refl _) dX11_sheet_50 rfl (fun s50 es50 => ?_)
          have fz_1 : Fr mF s s50 := Fr.tr fz (Fr.up es50 (by unfold mF mK; omega))
          have i_1 : mI TX nT n l P s50 := mI_f (m := fun q => q = 10) i (Fr.up es50 rfl) (by decide) (by decide) (by decide) (by decide) (by decide) (by decide) (by decide)
          have no_1 : ∀ i, (∀ j, j < 40 → i ≠ 40 * ut + j) → s50 12 i = s 12 i := by rw [es50, g_up_n (by decide)]; exact no
          have ca : s50 10 = upd (s 10) ut q := by rw [es50]; exact g_set_s _ _ _
          refine G_aload_n (i := 0) C 52 dX11_sheet_51 rfl rfl rfl ?_
          refine X11_40g C 55 dX11_sheet_52 rfl ?_
          refine G_iload_n (i := 1) C 56 dX11_sheet_55 rfl rfl rfl ?_
          refine G_iload_n (i := 2) C 57 dX11_sheet_56 rfl rfl rfl ?_
          refine G_iconst (v := (-1)) C 58 dX11_sheet_57 rfl rfl ?_
          refine G_icmp_ne C 65 61 dX11_sheet_58 rfl rfl (fun c58 => ?_) (fun c58 => ?_)
          ·
            exact absurd c20 c58
          ·
            refine G_iconst (v := 0) C 62 dX11_sheet_61 rfl rfl ?_
            refine G_goto C 66 dX11_sheet_62 rfl ?_
            refine G_iast (n := 4) C 67 (by decide) (fun σ => eMk (by decide) _ _ σ) (ut) eut (by omega) (by decide) (Nat.le_refl _) dX11_sheet_66 rfl (fun s66 es66 => ?_)
            have fz_2 : Fr mF s s66 := Fr.tr fz_1 (Fr.up es66 (by unfold mF mK; omega))
            have i_2 : mI TX nT n l P s66 := mI_f (m := fun q => q = 11) i_1 (Fr.up es66 rfl) (by decide) (by decide) (by decide) (by decide) (by decide) (by decide) (by decide)
            have ca_1 : s66 10 = upd (s 10) ut q := by rw [es66, g_up_n (by decide)]; exact ca
            have no_2 : ∀ i, (∀ j, j < 40 → i ≠ 40 * ut + j) → s66 12 i = s 12 i := by rw [es66, g_up_n (by decide)]; exact no_1
            have cb : s66 11 = upd (s 11) ut (if q = -1 then 0 else m) := by rw [es66]; unfold g_up; rw [g_set_s, es50, g_up_n (by decide), if_pos c20]
            have nu : ∀ j, j < 0 → s66 12 (40 * ut + j) = 0 := fun j hj => absurd hj (by omega)
            refine G_iconst (v := 0) C 68 dX11_sheet_67 rfl rfl ?_
            refine G_istore (L' := [some (.ref (e_ad E 0)), some (.int t), some (.int q), some (.int m), some (.int 0)]) C 70 dX11_sheet_68 rfl (Nat.le_of_ble_eq_true rfl) rfl rfl ?_
            have L70 : ∀ (f70 : Nat) (k : Nat) (y : Int32) (sl70 : gS) (Ey : y = nI k) (hk : k ≤ 40) (fzl70 : Fr mF s sl70) (il70 : mI TX nT n l P sl70) (cal70 : sl70 10 = upd (s 10) ut q) (cbl70 : sl70 11 = upd (s 11) ut (if q = -1 then 0 else m)) (nul70 : ∀ j, j < k → sl70 12 (40 * ut + j) = 0) (nol70 : ∀ i, (∀ j, j < 40 → i ≠ 40 * ut + j) → sl70 12 i = s 12 i), 40 < k + f70 → GW SM E (gFin SM E (gQi SM (fun r s' => RM TX P (s_shB B t q m) s' ∧ r = s_shR t q m))) 70 [some (.ref (e_ad E 0)), some (.int t), some (.int q), some (.int m), some (.int y)] [] sl70 := by
              intro f70
              induction f70 with
              | zero =>
                intro k y sl70 Ey hk fzl70 il70 cal70 cbl70 nul70 nol70 hf70
                exact absurd hf70 (by omega)
              | succ f70 ih70 =>
                intro k y sl70 Ey hk fzl70 il70 cal70 cbl70 nul70 nol70 hf70
                refine G_iload C 72 dX11_sheet_70 rfl rfl ?_
                refine G_bipush (v := 40) C 74 dX11_sheet_72 rfl rfl ?_
                refine G_icmp_ge C 96 77 dX11_sheet_74 rfl rfl (fun c74 => ?_) (fun c74 => ?_)
                ·
                  have n74 : ¬ k < 40 := fun h => c74 ((g_ltN (a := k) (b := 40) (hx := Ey) (hy := rfl) (by omega) (by omega)).mpr h)
                  refine G_iconst (v := 1) C 97 dX11_sheet_96 rfl rfl ?_
                  have hr : s_shR t q m = 1 := by unfold s_shR; rw [if_neg k6, if_neg k15, if_pos c20]
                  exact G_iret C dX11_sheet_97 (⟨by unfold s_shB; rw [if_pos hr, cut]; exact ⟨nT, n, l, Rm_sh hR (by omega) il70 fzl70 (Or.inl ⟨c20, if_pos c20⟩) cal70 cbl70 (fun j hj => nul70 j (by omega)) nol70 (fun _ _ => rfl)⟩, hr.symm⟩)
                ·
                  have n74 : k < 40 := (g_ltN (a := k) (b := 40) (hx := Ey) (hy := rfl) (by omega) (by omega)).mp c74
                  refine G_aload_n (i := 0) C 78 dX11_sheet_77 rfl rfl rfl ?_
                  refine X11_43g C 81 dX11_sheet_78 rfl ?_
                  refine G_bipush (v := 40) C 83 dX11_sheet_81 rfl rfl ?_
                  refine G_iload_n (i := 1) C 84 dX11_sheet_83 rfl rfl rfl ?_
                  refine G_imul C 85 dX11_sheet_84 rfl (fun x84 ex84 => ?_)
                  have Nx84 : x84 = nI (40 * ut) := g_mulN ex84 rfl eut
                  refine G_iload C 87 dX11_sheet_85 rfl rfl ?_
                  refine G_iadd C 88 dX11_sheet_87 rfl (fun x87 ex87 => ?_)
                  have Nx87 : x87 = nI ((40 * ut) + k) := g_addN ex87 Nx84 Ey
                  refine G_iconst (v := 0) C 89 dX11_sheet_88 rfl rfl ?_
                  refine G_iast (n := 160) C 90 (by decide) (fun σ => eMk (by decide) _ _ σ) (((40 * ut) + k)) Nx87 (by omega) (by decide) (Nat.le_refl _) dX11_sheet_89 rfl (fun s89 es89 => ?_)
                  have fz_3 : Fr mF s s89 := Fr.tr fzl70 (Fr.up es89 (by unfold mF mK; omega))
                  have i_3 : mI TX nT n l P s89 := mI_f (m := fun q => q = 12) il70 (Fr.up es89 rfl) (by decide) (by decide) (by decide) (by decide) (by decide) (by decide) (by decide)
                  have ca_2 : s89 10 = upd (s 10) ut q := by rw [es89, g_up_n (by decide)]; exact cal70
                  have cb_1 : s89 11 = upd (s 11) ut (if q = -1 then 0 else m) := by rw [es89, g_up_n (by decide)]; exact cbl70
                  have nu_1 : ∀ j, j < k + 1 → s89 12 (40 * ut + j) = 0 := fun j hj => by
                    rw [es89, g_up_sj]
                    by_cases e : j = k
                    · rw [if_pos (by omega)]
                    · rw [if_neg (by omega)]
                      exact nul70 j (by omega)
                  have no_3 : ∀ i, (∀ j, j < 40 → i ≠ 40 * ut + j) → s89 12 i = s 12 i := fun i hi => by rw [es89, g_up_sj, if_neg (hi k (by omega))]; exact nol70 i hi
                  refine G_iinc (w := 1) C 93 dX11_sheet_90 rfl rfl rfl rfl (fun x90 ex90 => ?_)
                  have Nx90 : x90 = nI (k + 1) := g_addN ex90 Ey rfl
                  show GW SM E _ 93 [some (.ref (e_ad E 0)), some (.int t), some (.int q), some (.int m), some (.int x90)] [] s89
                  refine G_goto C 70 dX11_sheet_93 rfl ?_
                  exact ih70 (k + 1) x90 s89 (g_cn (a := (k + 1)) Nx90 (by first | rfl | omega | (simp only [List.length_cons, List.length_drop]; done) | (simp only [List.length_cons, List.length_drop]; omega))) (by omega) fz_3 i_3 ca_2 cb_1 (nu_1) no_3 (by omega)
            exact L70 (40 + 1) 0 0 s66 (g_cn (a := 0) rfl (by first | rfl | omega)) (by omega) fz_2 i_2 ca_1 cb (nu) no_2 (by omega)
        ·
          exact absurd c20 c34
      ·
        refine G_iload_n (i := 3) C 24 dX11_sheet_23 rfl rfl rfl ?_
        refine G_bipush (v := 40) C 26 dX11_sheet_24 rfl rfl ?_
        refine G_icmp_le C 32 29 dX11_sheet_26 rfl rfl (fun c26 => ?_) (fun c26 => ?_)
        ·
          refine G_iload_n (i := 2) C 33 dX11_sheet_32 rfl rfl rfl ?_
          refine G_iconst (v := (-1)) C 34 dX11_sheet_33 rfl rfl ?_
          refine G_icmp_eq C 44 37 dX11_sheet_34 rfl rfl (fun c34 => ?_) (fun c34 => ?_)
          ·
            exact absurd c34 c20
          ·
            refine G_iload_n (i := 3) C 38 dX11_sheet_37 rfl rfl rfl ?_
            refine G_if_ge C 44 41 dX11_sheet_38 rfl rfl (fun c38 => ?_) (fun c38 => ?_)
            ·
              have no : ∀ i, (∀ j, j < 40 → i ≠ 40 * ut + j) → s 12 i = s 12 i := fun _ _ => rfl
              refine G_aload_n (i := 0) C 45 dX11_sheet_44 rfl rfl rfl ?_
              refine X11_37g C 48 dX11_sheet_45 rfl ?_
              refine G_iload_n (i := 1) C 49 dX11_sheet_48 rfl rfl rfl ?_
              refine G_iload_n (i := 2) C 50 dX11_sheet_49 rfl rfl rfl ?_
              refine G_iast (n := 4) C 51 (by decide) (fun σ => eMk (by decide) _ _ σ) (ut) eut (by omega) (by decide) (Nat.le_refl _) dX11_sheet_50 rfl (fun s50 es50 => ?_)
              have fz_1 : Fr mF s s50 := Fr.tr fz (Fr.up es50 (by unfold mF mK; omega))
              have i_1 : mI TX nT n l P s50 := mI_f (m := fun q => q = 10) i (Fr.up es50 rfl) (by decide) (by decide) (by decide) (by decide) (by decide) (by decide) (by decide)
              have no_1 : ∀ i, (∀ j, j < 40 → i ≠ 40 * ut + j) → s50 12 i = s 12 i := by rw [es50, g_up_n (by decide)]; exact no
              have ca : s50 10 = upd (s 10) ut q := by rw [es50]; exact g_set_s _ _ _
              refine G_aload_n (i := 0) C 52 dX11_sheet_51 rfl rfl rfl ?_
              refine X11_40g C 55 dX11_sheet_52 rfl ?_
              refine G_iload_n (i := 1) C 56 dX11_sheet_55 rfl rfl rfl ?_
              refine G_iload_n (i := 2) C 57 dX11_sheet_56 rfl rfl rfl ?_
              refine G_iconst (v := (-1)) C 58 dX11_sheet_57 rfl rfl ?_
              refine G_icmp_ne C 65 61 dX11_sheet_58 rfl rfl (fun c58 => ?_) (fun c58 => ?_)
              ·
                refine G_iload_n (i := 3) C 66 dX11_sheet_65 rfl rfl rfl ?_
                refine G_iast (n := 4) C 67 (by decide) (fun σ => eMk (by decide) _ _ σ) (ut) eut (by omega) (by decide) (Nat.le_refl _) dX11_sheet_66 rfl (fun s66 es66 => ?_)
                have fz_2 : Fr mF s s66 := Fr.tr fz_1 (Fr.up es66 (by unfold mF mK; omega))
                have i_2 : mI TX nT n l P s66 := mI_f (m := fun q => q = 11) i_1 (Fr.up es66 rfl) (by decide) (by decide) (by decide) (by decide) (by decide) (by decide) (by decide)
                have ca_1 : s66 10 = upd (s 10) ut q := by rw [es66, g_up_n (by decide)]; exact ca
                have no_2 : ∀ i, (∀ j, j < 40 → i ≠ 40 * ut + j) → s66 12 i = s 12 i := by rw [es66, g_up_n (by decide)]; exact no_1
                have cb : s66 11 = upd (s 11) ut (if q = -1 then 0 else m) := by rw [es66]; unfold g_up; rw [g_set_s, es50, g_up_n (by decide), if_neg c20]
                have nu : ∀ j, j < 0 → s66 12 (40 * ut + j) = 0 := fun j hj => absurd hj (by omega)
                refine G_iconst (v := 0) C 68 dX11_sheet_67 rfl rfl ?_
                refine G_istore (L' := [some (.ref (e_ad E 0)), some (.int t), some (.int q), some (.int m), some (.int 0)]) C 70 dX11_sheet_68 rfl (Nat.le_of_ble_eq_true rfl) rfl rfl ?_
                have L70 : ∀ (f70 : Nat) (k : Nat) (y : Int32) (sl70 : gS) (Ey : y = nI k) (hk : k ≤ 40) (fzl70 : Fr mF s sl70) (il70 : mI TX nT n l P sl70) (cal70 : sl70 10 = upd (s 10) ut q) (cbl70 : sl70 11 = upd (s 11) ut (if q = -1 then 0 else m)) (nul70 : ∀ j, j < k → sl70 12 (40 * ut + j) = 0) (nol70 : ∀ i, (∀ j, j < 40 → i ≠ 40 * ut + j) → sl70 12 i = s 12 i), 40 < k + f70 → GW SM E (gFin SM E (gQi SM (fun r s' => RM TX P (s_shB B t q m) s' ∧ r = s_shR t q m))) 70 [some (.ref (e_ad E 0)), some (.int t), some (.int q), some (.int m), some (.int y)] [] sl70 := by
                  intro f70
                  induction f70 with
                  | zero =>
                    intro k y sl70 Ey hk fzl70 il70 cal70 cbl70 nul70 nol70 hf70
                    exact absurd hf70 (by omega)
                  | succ f70 ih70 =>
                    intro k y sl70 Ey hk fzl70 il70 cal70 cbl70 nul70 nol70 hf70
                    refine G_iload C 72 dX11_sheet_70 rfl rfl ?_
                    refine G_bipush (v := 40) C 74 dX11_sheet_72 rfl rfl ?_
                    refine G_icmp_ge C 96 77 dX11_sheet_74 rfl rfl (fun c74 => ?_) (fun c74 => ?_)
                    ·
                      have n74 : ¬ k < 40 := fun h => c74 ((g_ltN (a := k) (b := 40) (hx := Ey) (hy := rfl) (by omega) (by omega)).mpr h)
                      refine G_iconst (v := 1) C 97 dX11_sheet_96 rfl rfl ?_
                      have hr : s_shR t q m = 1 := by unfold s_shR; rw [if_neg k6, if_neg k15, if_neg c20, if_neg c26, if_neg c38]
                      obtain ⟨uq, huq, euq⟩ := (x_inRm (b := 2) k15 rfl (by decide)).resolve_left c20
                      obtain ⟨um, hum, eum⟩ : ∃ um, um ≤ 40 ∧ m = nI um := by
                        obtain ⟨j, hj, ej⟩ := nI_of c38
                        rw [ej, show (40 : Int32) = nI 40 from rfl, nI_ltI (by omega) hj] at c26
                        exact ⟨j, by omega, ej⟩
                      exact G_iret C dX11_sheet_97 (⟨by unfold s_shB; rw [if_pos hr, cut]; exact ⟨nT, n, l, Rm_sh hR (by omega) il70 fzl70 (Or.inr ⟨uq, um, by omega, hum, euq, by rw [if_neg c20]; exact eum⟩) cal70 cbl70 (fun j hj => nul70 j (by omega)) nol70 (fun _ _ => rfl)⟩, hr.symm⟩)
                    ·
                      have n74 : k < 40 := (g_ltN (a := k) (b := 40) (hx := Ey) (hy := rfl) (by omega) (by omega)).mp c74
                      refine G_aload_n (i := 0) C 78 dX11_sheet_77 rfl rfl rfl ?_
                      refine X11_43g C 81 dX11_sheet_78 rfl ?_
                      refine G_bipush (v := 40) C 83 dX11_sheet_81 rfl rfl ?_
                      refine G_iload_n (i := 1) C 84 dX11_sheet_83 rfl rfl rfl ?_
                      refine G_imul C 85 dX11_sheet_84 rfl (fun x84 ex84 => ?_)
                      have Nx84 : x84 = nI (40 * ut) := g_mulN ex84 rfl eut
                      refine G_iload C 87 dX11_sheet_85 rfl rfl ?_
                      refine G_iadd C 88 dX11_sheet_87 rfl (fun x87 ex87 => ?_)
                      have Nx87 : x87 = nI ((40 * ut) + k) := g_addN ex87 Nx84 Ey
                      refine G_iconst (v := 0) C 89 dX11_sheet_88 rfl rfl ?_
                      refine G_iast (n := 160) C 90 (by decide) (fun σ => eMk (by decide) _ _ σ) (((40 * ut) + k)) Nx87 (by omega) (by decide) (Nat.le_refl _) dX11_sheet_89 rfl (fun s89 es89 => ?_)
                      have fz_3 : Fr mF s s89 := Fr.tr fzl70 (Fr.up es89 (by unfold mF mK; omega))
                      have i_3 : mI TX nT n l P s89 := mI_f (m := fun q => q = 12) il70 (Fr.up es89 rfl) (by decide) (by decide) (by decide) (by decide) (by decide) (by decide) (by decide)
                      have ca_2 : s89 10 = upd (s 10) ut q := by rw [es89, g_up_n (by decide)]; exact cal70
                      have cb_1 : s89 11 = upd (s 11) ut (if q = -1 then 0 else m) := by rw [es89, g_up_n (by decide)]; exact cbl70
                      have nu_1 : ∀ j, j < k + 1 → s89 12 (40 * ut + j) = 0 := fun j hj => by
                        rw [es89, g_up_sj]
                        by_cases e : j = k
                        · rw [if_pos (by omega)]
                        · rw [if_neg (by omega)]
                          exact nul70 j (by omega)
                      have no_3 : ∀ i, (∀ j, j < 40 → i ≠ 40 * ut + j) → s89 12 i = s 12 i := fun i hi => by rw [es89, g_up_sj, if_neg (hi k (by omega))]; exact nol70 i hi
                      refine G_iinc (w := 1) C 93 dX11_sheet_90 rfl rfl rfl rfl (fun x90 ex90 => ?_)
                      have Nx90 : x90 = nI (k + 1) := g_addN ex90 Ey rfl
                      show GW SM E _ 93 [some (.ref (e_ad E 0)), some (.int t), some (.int q), some (.int m), some (.int x90)] [] s89
                      refine G_goto C 70 dX11_sheet_93 rfl ?_
                      exact ih70 (k + 1) x90 s89 (g_cn (a := (k + 1)) Nx90 (by first | rfl | omega | (simp only [List.length_cons, List.length_drop]; done) | (simp only [List.length_cons, List.length_drop]; omega))) (by omega) fz_3 i_3 ca_2 cb_1 (nu_1) no_3 (by omega)
                exact L70 (40 + 1) 0 0 s66 (g_cn (a := 0) rfl (by first | rfl | omega)) (by omega) fz_2 i_2 ca_1 cb (nu) no_2 (by omega)
              ·
                exact absurd c58 c20
            ·
              refine G_bipush (v := (-14)) C 43 dX11_sheet_41 rfl rfl ?_
              exact G_iret C dX11_sheet_43 (⟨by unfold s_shB; rw [if_neg (by unfold s_shR; rw [if_neg k6, if_neg k15, if_neg c20, if_neg c26, if_pos c38]; decide)]; exact ⟨nT, n, l, hR⟩, by unfold s_shR; rw [if_neg k6, if_neg k15, if_neg c20, if_neg c26, if_pos c38]⟩)
        ·
          refine G_bipush (v := (-2)) C 31 dX11_sheet_29 rfl rfl ?_
          exact G_iret C dX11_sheet_31 (⟨by unfold s_shB; rw [if_neg (by unfold s_shR; rw [if_neg k6, if_neg k15, if_neg c20, if_pos c26]; decide)]; exact ⟨nT, n, l, hR⟩, by unfold s_shR; rw [if_neg k6, if_neg k15, if_neg c20, if_pos c26]⟩)
theorem dX11_cell_0 : decode cX11_cell 0 = .ok (.iload_n 1, 1) := by decide +kernel
theorem dX11_cell_1 : decode cX11_cell 1 = .ok (.iconst 0, 1) := by decide +kernel
theorem dX11_cell_2 : decode cX11_cell 2 = .ok (.iconst 3, 1) := by decide +kernel
theorem dX11_cell_3 : decode cX11_cell 3 = .ok (.invokestatic 78, 3) := by decide +kernel
theorem dX11_cell_6 : decode cX11_cell 6 = .ok (.ifCond .ne 6, 3) := by decide +kernel
theorem dX11_cell_9 : decode cX11_cell 9 = .ok (.bipush (-2), 2) := by decide +kernel
theorem dX11_cell_11 : decode cX11_cell 11 = .ok (.ireturn, 1) := by decide +kernel
theorem dX11_cell_12 : decode cX11_cell 12 = .ok (.aload_n 0, 1) := by decide +kernel
theorem dX11_cell_13 : decode cX11_cell 13 = .ok (.getfield 37, 3) := by decide +kernel
theorem dX11_cell_16 : decode cX11_cell 16 = .ok (.iload_n 1, 1) := by decide +kernel
theorem dX11_cell_17 : decode cX11_cell 17 = .ok (.iaload, 1) := by decide +kernel
theorem dX11_cell_18 : decode cX11_cell 18 = .ok (.iconst (-1), 1) := by decide +kernel
theorem dX11_cell_19 : decode cX11_cell 19 = .ok (.if_icmp .ne 6, 3) := by decide +kernel
theorem dX11_cell_22 : decode cX11_cell 22 = .ok (.bipush (-11), 2) := by decide +kernel
theorem dX11_cell_24 : decode cX11_cell 24 = .ok (.ireturn, 1) := by decide +kernel
theorem dX11_cell_25 : decode cX11_cell 25 = .ok (.iload_n 2, 1) := by decide +kernel
theorem dX11_cell_26 : decode cX11_cell 26 = .ok (.iconst 0, 1) := by decide +kernel
theorem dX11_cell_27 : decode cX11_cell 27 = .ok (.aload_n 0, 1) := by decide +kernel
theorem dX11_cell_28 : decode cX11_cell 28 = .ok (.getfield 40, 3) := by decide +kernel
theorem dX11_cell_31 : decode cX11_cell 31 = .ok (.iload_n 1, 1) := by decide +kernel
theorem dX11_cell_32 : decode cX11_cell 32 = .ok (.iaload, 1) := by decide +kernel
theorem dX11_cell_33 : decode cX11_cell 33 = .ok (.iconst 1, 1) := by decide +kernel
theorem dX11_cell_34 : decode cX11_cell 34 = .ok (.isub, 1) := by decide +kernel
theorem dX11_cell_35 : decode cX11_cell 35 = .ok (.invokestatic 78, 3) := by decide +kernel
theorem dX11_cell_38 : decode cX11_cell 38 = .ok (.ifCond .ne 6, 3) := by decide +kernel
theorem dX11_cell_41 : decode cX11_cell 41 = .ok (.bipush (-12), 2) := by decide +kernel
theorem dX11_cell_43 : decode cX11_cell 43 = .ok (.ireturn, 1) := by decide +kernel
theorem dX11_cell_44 : decode cX11_cell 44 = .ok (.aload_n 0, 1) := by decide +kernel
theorem dX11_cell_45 : decode cX11_cell 45 = .ok (.getfield 43, 3) := by decide +kernel
theorem dX11_cell_48 : decode cX11_cell 48 = .ok (.bipush 40, 2) := by decide +kernel
theorem dX11_cell_50 : decode cX11_cell 50 = .ok (.iload_n 1, 1) := by decide +kernel
theorem dX11_cell_51 : decode cX11_cell 51 = .ok (.imul, 1) := by decide +kernel
theorem dX11_cell_52 : decode cX11_cell 52 = .ok (.iload_n 2, 1) := by decide +kernel
theorem dX11_cell_53 : decode cX11_cell 53 = .ok (.iadd, 1) := by decide +kernel
theorem dX11_cell_54 : decode cX11_cell 54 = .ok (.aload_n 0, 1) := by decide +kernel
theorem dX11_cell_55 : decode cX11_cell 55 = .ok (.getfield 37, 3) := by decide +kernel
theorem dX11_cell_58 : decode cX11_cell 58 = .ok (.iload_n 1, 1) := by decide +kernel
theorem dX11_cell_59 : decode cX11_cell 59 = .ok (.iaload, 1) := by decide +kernel
theorem dX11_cell_60 : decode cX11_cell 60 = .ok (.ifCond .ne 8, 3) := by decide +kernel
theorem dX11_cell_63 : decode cX11_cell 63 = .ok (.iload_n 3, 1) := by decide +kernel
theorem dX11_cell_64 : decode cX11_cell 64 = .ok (.i2b, 1) := by decide +kernel
theorem dX11_cell_65 : decode cX11_cell 65 = .ok (.goto 19, 3) := by decide +kernel
theorem dX11_cell_68 : decode cX11_cell 68 = .ok (.aload_n 0, 1) := by decide +kernel
theorem dX11_cell_69 : decode cX11_cell 69 = .ok (.getfield 37, 3) := by decide +kernel
theorem dX11_cell_72 : decode cX11_cell 72 = .ok (.iload_n 1, 1) := by decide +kernel
theorem dX11_cell_73 : decode cX11_cell 73 = .ok (.iaload, 1) := by decide +kernel
theorem dX11_cell_74 : decode cX11_cell 74 = .ok (.iconst 1, 1) := by decide +kernel
theorem dX11_cell_75 : decode cX11_cell 75 = .ok (.if_icmp .ne 8, 3) := by decide +kernel
theorem dX11_cell_78 : decode cX11_cell 78 = .ok (.iload_n 3, 1) := by decide +kernel
theorem dX11_cell_79 : decode cX11_cell 79 = .ok (.i2s, 1) := by decide +kernel
theorem dX11_cell_80 : decode cX11_cell 80 = .ok (.goto 4, 3) := by decide +kernel
theorem dX11_cell_83 : decode cX11_cell 83 = .ok (.iload_n 3, 1) := by decide +kernel
theorem dX11_cell_84 : decode cX11_cell 84 = .ok (.iastore, 1) := by decide +kernel
theorem dX11_cell_85 : decode cX11_cell 85 = .ok (.iconst 1, 1) := by decide +kernel
theorem dX11_cell_86 : decode cX11_cell 86 = .ok (.ireturn, 1) := by decide +kernel
set_option maxHeartbeats 4000000 in
set_option maxRecDepth 100000 in
theorem c_X11_cell (d : Nat) (TX : gTX) (P B s : gS) (hR0 : RM TX P B s) (t i v : Int32) : gMt SM yX11_cell cX11_cell 4 (some .int) (d + 2) (fun ad => [.ref (ad 0), .int t, .int i, .int v]) s (gQi SM (fun r s' => RM TX P (s_ceB B t i v) s' ∧ r = s_ceR B t i)) := by
  obtain ⟨nT, n, l, hR⟩ := hR0
  have hI := hR.1
  have hn6 : n ≤ 6 := hI.2.1.2.1
  have hl6 : l < 6 := mI_l6 hI
  have hxn : x_n P = n := x_nOf hI.2.1.1 hn6
  have hbI := hR.2.2
  have hnT6 : nT ≤ 6 := hI.2.1.2.2.2.2.1
  obtain ⟨tn0, htn0, etn0⟩ := hbI.2.1
  refine gMt_of SM_ok (by decide +kernel) (fun ad => [some (.ref (ad 0)), some (.int t), some (.int i), some (.int v)]) (fun _ => rfl) (fun _ => rfl) (fun _ => Nat.le_of_ble_eq_true rfl) (fun E C0 => ?_)
  have C : gCx SM E RX11 cX11_cell 4 (some .int) (d + 2) := C0
  refine G_iload_n (i := 1) C 1 dX11_cell_0 rfl rfl rfl ?_
  refine G_iconst (v := 0) C 2 dX11_cell_1 rfl rfl ?_
  refine G_iconst (v := 3) C 3 dX11_cell_2 rfl rfl ?_
  refine G_calli 6 (G_runS C Kc_X11_in KS_X11_78 (by omega) (c_X11_in 0 t 0 3 s) rfl rfl (Nat.le_of_ble_eq_true rfl) rfl dX11_cell_3) rfl (fun x3 s3 h3 => ?_)
  obtain ⟨es3, h3⟩ := h3
  have es3 := es3.symm
  subst es3
  refine G_if_ne C 12 9 dX11_cell_6 rfl rfl (fun c6 => ?_) (fun c6 => ?_)
  ·
    have k6 := g_neT h3 c6
    obtain ⟨ut, hut, eut⟩ := x_inR (b := 3) k6 rfl (by decide)
    have cut : t.toNatClampNeg = ut := by rw [eut, nI_clamp (by omega)]
    refine G_aload_n (i := 0) C 13 dX11_cell_12 rfl rfl rfl ?_
    refine X11_37g C 16 dX11_cell_13 rfl ?_
    refine G_iload_n (i := 1) C 17 dX11_cell_16 rfl rfl rfl ?_
    refine G_iald (n := 4) C 18 (by decide) (eMk (by decide) _ _ _) (ut) eut (by omega) (by decide) dX11_cell_17 rfl (fun x17 ex17 => ?_)
    have Sx17 : x17 = B 2 ut := ex17.trans (mB_so hR.2.1 (by omega))
    refine G_iconst (v := (-1)) C 19 dX11_cell_18 rfl rfl ?_
    refine G_icmp_ne C 25 22 dX11_cell_19 rfl rfl (fun c19 => ?_) (fun c19 => ?_)
    ·
      obtain ⟨so, z, hso, hz, eso, ez⟩ := (hbI.2.2.2.2.1 ut (by omega)).resolve_left (fun w => c19 (Sx17.trans w.1))
      refine G_iload_n (i := 2) C 26 dX11_cell_25 rfl rfl rfl ?_
      refine G_iconst (v := 0) C 27 dX11_cell_26 rfl rfl ?_
      refine G_aload_n (i := 0) C 28 dX11_cell_27 rfl rfl rfl ?_
      refine X11_40g C 31 dX11_cell_28 rfl ?_
      refine G_iload_n (i := 1) C 32 dX11_cell_31 rfl rfl rfl ?_
      refine G_iald (n := 4) C 33 (by decide) (eMk (by decide) _ _ _) (ut) eut (by omega) (by decide) dX11_cell_32 rfl (fun x32 ex32 => ?_)
      have Sx32 : x32 = B 3 ut := ex32.trans (mB_sz hR.2.1 (by omega))
      refine G_iconst (v := 1) C 34 dX11_cell_33 rfl rfl ?_
      refine G_isub C 35 dX11_cell_34 rfl (fun x34 ex34 => ?_)
      refine G_calli 38 (G_runS C Kc_X11_in KS_X11_78 (by omega) (c_X11_in 0 i 0 x34 s) rfl rfl (Nat.le_of_ble_eq_true rfl) rfl dX11_cell_35) rfl (fun x35 s35 h35 => ?_)
      obtain ⟨es35, h35⟩ := h35
      have es35 := es35.symm
      subst es35
      refine G_if_ne C 44 41 dX11_cell_38 rfl rfl (fun c38 => ?_) (fun c38 => ?_)
      ·
        have k38 := g_neT h35 c38
        obtain ⟨k, hk, ei⟩ := x_inS (z := z) (by omega) (by rw [← ez, ← Sx32, ← ex34]; exact k38)
        refine G_aload_n (i := 0) C 45 dX11_cell_44 rfl rfl rfl ?_
        refine X11_43g C 48 dX11_cell_45 rfl ?_
        refine G_bipush (v := 40) C 50 dX11_cell_48 rfl rfl ?_
        refine G_iload_n (i := 1) C 51 dX11_cell_50 rfl rfl rfl ?_
        refine G_imul C 52 dX11_cell_51 rfl (fun x51 ex51 => ?_)
        have Nx51 : x51 = nI (40 * ut) := g_mulN ex51 rfl eut
        refine G_iload_n (i := 2) C 53 dX11_cell_52 rfl rfl rfl ?_
        refine G_iadd C 54 dX11_cell_53 rfl (fun x53 ex53 => ?_)
        have Nx53 : x53 = nI ((40 * ut) + k) := g_addN ex53 Nx51 ei
        refine G_aload_n (i := 0) C 55 dX11_cell_54 rfl rfl rfl ?_
        refine X11_37g C 58 dX11_cell_55 rfl ?_
        refine G_iload_n (i := 1) C 59 dX11_cell_58 rfl rfl rfl ?_
        refine G_iald (n := 4) C 60 (by decide) (eMk (by decide) _ _ _) (ut) eut (by omega) (by decide) dX11_cell_59 rfl (fun x59 ex59 => ?_)
        have Sx59 : x59 = B 2 ut := ex59.trans (mB_so hR.2.1 (by omega))
        refine G_if_ne C 68 63 dX11_cell_60 rfl rfl (fun c60 => ?_) (fun c60 => ?_)
        ·
          refine G_aload_n (i := 0) C 69 dX11_cell_68 rfl rfl rfl ?_
          refine X11_37g C 72 dX11_cell_69 rfl ?_
          refine G_iload_n (i := 1) C 73 dX11_cell_72 rfl rfl rfl ?_
          refine G_iald (n := 4) C 74 (by decide) (eMk (by decide) _ _ _) (ut) eut (by omega) (by decide) dX11_cell_73 rfl (fun x73 ex73 => ?_)
          have Sx73 : x73 = B 2 ut := ex73.trans (mB_so hR.2.1 (by omega))
          refine G_iconst (v := 1) C 75 dX11_cell_74 rfl rfl ?_
          refine G_icmp_ne C 83 78 dX11_cell_75 rfl rfl (fun c75 => ?_) (fun c75 => ?_)
          ·
            refine G_iload_n (i := 3) C 84 dX11_cell_83 rfl rfl rfl ?_
            refine G_iast (n := 160) C 85 (by decide) (fun σ => eMk (by decide) _ _ σ) (((40 * ut) + k)) Nx53 (by omega) (by decide) (Nat.le_refl _) dX11_cell_84 rfl (fun s84 es84 => ?_)
            refine G_iconst (v := 1) C 86 dX11_cell_85 rfl rfl ?_
            have hr : s_ceR B t i = 1 := by unfold s_ceR; rw [if_neg k6, cut, if_neg (fun w => c19 (Sx17.trans w)), ← Sx32, ← ex34, if_neg k38]
            have hval : v = x_nar (B 2 ut) v := by unfold x_nar; rw [if_neg (fun w => c60 (Sx59.trans w)), if_neg (fun w => c75 (Sx73.trans w))]
            exact G_iret C dX11_cell_86 (⟨by unfold s_ceB; rw [if_pos hr, cut, ei, nI_clamp (by omega)]; exact ⟨nT, n, l, Rm_num hR (by omega) (Fr.up es84 rfl) (nB := upd (B (4 + ut)) k (x_nar (B 2 ut) v)) (fun j hj => by
                rw [es84, g_up_sj]
                unfold upd
                by_cases e : j = k
                · rw [if_pos (by omega), if_pos e]; exact hval
                · rw [if_neg (by omega), if_neg e, mB_nu hR.2.1 (by omega) hj]) (fun i hi => by rw [es84, g_up_sj, if_neg (hi k (by omega))]) (fun j hj => by unfold upd; rw [if_neg (by omega)]; exact mB_n40 hR.2.1 (by omega) hj)⟩, hr.symm⟩)
          ·
            refine G_iload_n (i := 3) C 79 dX11_cell_78 rfl rfl rfl ?_
            refine G_i2s C 80 dX11_cell_79 rfl (fun x79 ex79 => ?_)
            refine G_goto C 84 dX11_cell_80 rfl ?_
            refine G_iast (n := 160) C 85 (by decide) (fun σ => eMk (by decide) _ _ σ) (((40 * ut) + k)) Nx53 (by omega) (by decide) (Nat.le_refl _) dX11_cell_84 rfl (fun s84 es84 => ?_)
            refine G_iconst (v := 1) C 86 dX11_cell_85 rfl rfl ?_
            have hr : s_ceR B t i = 1 := by unfold s_ceR; rw [if_neg k6, cut, if_neg (fun w => c19 (Sx17.trans w)), ← Sx32, ← ex34, if_neg k38]
            have hval : x79 = x_nar (B 2 ut) v := by unfold x_nar; rw [if_neg (fun w => c60 (Sx59.trans w)), if_pos (Sx73.symm.trans c75)]; exact ex79
            exact G_iret C dX11_cell_86 (⟨by unfold s_ceB; rw [if_pos hr, cut, ei, nI_clamp (by omega)]; exact ⟨nT, n, l, Rm_num hR (by omega) (Fr.up es84 rfl) (nB := upd (B (4 + ut)) k (x_nar (B 2 ut) v)) (fun j hj => by
                rw [es84, g_up_sj]
                unfold upd
                by_cases e : j = k
                · rw [if_pos (by omega), if_pos e]; exact hval
                · rw [if_neg (by omega), if_neg e, mB_nu hR.2.1 (by omega) hj]) (fun i hi => by rw [es84, g_up_sj, if_neg (hi k (by omega))]) (fun j hj => by unfold upd; rw [if_neg (by omega)]; exact mB_n40 hR.2.1 (by omega) hj)⟩, hr.symm⟩)
        ·
          refine G_iload_n (i := 3) C 64 dX11_cell_63 rfl rfl rfl ?_
          refine G_i2b C 65 dX11_cell_64 rfl (fun x64 ex64 => ?_)
          refine G_goto C 84 dX11_cell_65 rfl ?_
          refine G_iast (n := 160) C 85 (by decide) (fun σ => eMk (by decide) _ _ σ) (((40 * ut) + k)) Nx53 (by omega) (by decide) (Nat.le_refl _) dX11_cell_84 rfl (fun s84 es84 => ?_)
          refine G_iconst (v := 1) C 86 dX11_cell_85 rfl rfl ?_
          have hr : s_ceR B t i = 1 := by unfold s_ceR; rw [if_neg k6, cut, if_neg (fun w => c19 (Sx17.trans w)), ← Sx32, ← ex34, if_neg k38]
          have hval : x64 = x_nar (B 2 ut) v := by unfold x_nar; rw [if_pos (Sx59.symm.trans c60)]; exact ex64
          exact G_iret C dX11_cell_86 (⟨by unfold s_ceB; rw [if_pos hr, cut, ei, nI_clamp (by omega)]; exact ⟨nT, n, l, Rm_num hR (by omega) (Fr.up es84 rfl) (nB := upd (B (4 + ut)) k (x_nar (B 2 ut) v)) (fun j hj => by
              rw [es84, g_up_sj]
              unfold upd
              by_cases e : j = k
              · rw [if_pos (by omega), if_pos e]; exact hval
              · rw [if_neg (by omega), if_neg e, mB_nu hR.2.1 (by omega) hj]) (fun i hi => by rw [es84, g_up_sj, if_neg (hi k (by omega))]) (fun j hj => by unfold upd; rw [if_neg (by omega)]; exact mB_n40 hR.2.1 (by omega) hj)⟩, hr.symm⟩)
      ·
        have k38 := h35.symm.trans c38
        refine G_bipush (v := (-12)) C 43 dX11_cell_41 rfl rfl ?_
        exact G_iret C dX11_cell_43 (⟨by unfold s_ceB; rw [if_neg (by unfold s_ceR; rw [if_neg k6, cut, if_neg (fun w => c19 (Sx17.trans w)), ← Sx32, ← ex34, if_pos k38]; decide)]; exact ⟨nT, n, l, hR⟩, by unfold s_ceR; rw [if_neg k6, cut, if_neg (fun w => c19 (Sx17.trans w)), ← Sx32, ← ex34, if_pos k38]⟩)
    ·
      refine G_bipush (v := (-11)) C 24 dX11_cell_22 rfl rfl ?_
      exact G_iret C dX11_cell_24 (⟨by unfold s_ceB; rw [if_neg (by unfold s_ceR; rw [if_neg k6, cut, if_pos (Sx17.symm.trans c19)]; decide)]; exact ⟨nT, n, l, hR⟩, by unfold s_ceR; rw [if_neg k6, cut, if_pos (Sx17.symm.trans c19)]⟩)
  ·
    have k6 := h3.symm.trans c6
    refine G_bipush (v := (-2)) C 11 dX11_cell_9 rfl rfl ?_
    exact G_iret C dX11_cell_11 (⟨by unfold s_ceB; rw [if_neg (by unfold s_ceR; rw [if_pos k6]; decide)]; exact ⟨nT, n, l, hR⟩, by unfold s_ceR; rw [if_pos k6]⟩)
theorem dX11_copy_0 : decode cX11_copy 0 = .ok (.iload_n 1, 1) := by decide +kernel
theorem dX11_copy_1 : decode cX11_copy 1 = .ok (.iconst 0, 1) := by decide +kernel
theorem dX11_copy_2 : decode cX11_copy 2 = .ok (.iconst 3, 1) := by decide +kernel
theorem dX11_copy_3 : decode cX11_copy 3 = .ok (.invokestatic 78, 3) := by decide +kernel
theorem dX11_copy_6 : decode cX11_copy 6 = .ok (.ifCond .eq 12, 3) := by decide +kernel
theorem dX11_copy_9 : decode cX11_copy 9 = .ok (.iload_n 3, 1) := by decide +kernel
theorem dX11_copy_10 : decode cX11_copy 10 = .ok (.iconst 0, 1) := by decide +kernel
theorem dX11_copy_11 : decode cX11_copy 11 = .ok (.iconst 3, 1) := by decide +kernel
theorem dX11_copy_12 : decode cX11_copy 12 = .ok (.invokestatic 78, 3) := by decide +kernel
theorem dX11_copy_15 : decode cX11_copy 15 = .ok (.ifCond .ne 6, 3) := by decide +kernel
theorem dX11_copy_18 : decode cX11_copy 18 = .ok (.bipush (-2), 2) := by decide +kernel
theorem dX11_copy_20 : decode cX11_copy 20 = .ok (.ireturn, 1) := by decide +kernel
theorem dX11_copy_21 : decode cX11_copy 21 = .ok (.aload_n 0, 1) := by decide +kernel
theorem dX11_copy_22 : decode cX11_copy 22 = .ok (.getfield 37, 3) := by decide +kernel
theorem dX11_copy_25 : decode cX11_copy 25 = .ok (.iload_n 1, 1) := by decide +kernel
theorem dX11_copy_26 : decode cX11_copy 26 = .ok (.iaload, 1) := by decide +kernel
theorem dX11_copy_27 : decode cX11_copy 27 = .ok (.iconst (-1), 1) := by decide +kernel
theorem dX11_copy_28 : decode cX11_copy 28 = .ok (.if_icmp .eq 13, 3) := by decide +kernel
theorem dX11_copy_31 : decode cX11_copy 31 = .ok (.aload_n 0, 1) := by decide +kernel
theorem dX11_copy_32 : decode cX11_copy 32 = .ok (.getfield 37, 3) := by decide +kernel
theorem dX11_copy_35 : decode cX11_copy 35 = .ok (.iload_n 3, 1) := by decide +kernel
theorem dX11_copy_36 : decode cX11_copy 36 = .ok (.iaload, 1) := by decide +kernel
theorem dX11_copy_37 : decode cX11_copy 37 = .ok (.iconst (-1), 1) := by decide +kernel
theorem dX11_copy_38 : decode cX11_copy 38 = .ok (.if_icmp .ne 6, 3) := by decide +kernel
theorem dX11_copy_41 : decode cX11_copy 41 = .ok (.bipush (-11), 2) := by decide +kernel
theorem dX11_copy_43 : decode cX11_copy 43 = .ok (.ireturn, 1) := by decide +kernel
theorem dX11_copy_44 : decode cX11_copy 44 = .ok (.aload_n 0, 1) := by decide +kernel
theorem dX11_copy_45 : decode cX11_copy 45 = .ok (.getfield 37, 3) := by decide +kernel
theorem dX11_copy_48 : decode cX11_copy 48 = .ok (.iload_n 1, 1) := by decide +kernel
theorem dX11_copy_49 : decode cX11_copy 49 = .ok (.iaload, 1) := by decide +kernel
theorem dX11_copy_50 : decode cX11_copy 50 = .ok (.aload_n 0, 1) := by decide +kernel
theorem dX11_copy_51 : decode cX11_copy 51 = .ok (.getfield 37, 3) := by decide +kernel
theorem dX11_copy_54 : decode cX11_copy 54 = .ok (.iload_n 3, 1) := by decide +kernel
theorem dX11_copy_55 : decode cX11_copy 55 = .ok (.iaload, 1) := by decide +kernel
theorem dX11_copy_56 : decode cX11_copy 56 = .ok (.if_icmp .eq 6, 3) := by decide +kernel
theorem dX11_copy_59 : decode cX11_copy 59 = .ok (.bipush (-13), 2) := by decide +kernel
theorem dX11_copy_61 : decode cX11_copy 61 = .ok (.ireturn, 1) := by decide +kernel
theorem dX11_copy_62 : decode cX11_copy 62 = .ok (.iload 5, 2) := by decide +kernel
theorem dX11_copy_64 : decode cX11_copy 64 = .ok (.ifCond .lt 60, 3) := by decide +kernel
theorem dX11_copy_67 : decode cX11_copy 67 = .ok (.iload_n 2, 1) := by decide +kernel
theorem dX11_copy_68 : decode cX11_copy 68 = .ok (.ifCond .lt 56, 3) := by decide +kernel
theorem dX11_copy_71 : decode cX11_copy 71 = .ok (.iload 4, 2) := by decide +kernel
theorem dX11_copy_73 : decode cX11_copy 73 = .ok (.ifCond .lt 51, 3) := by decide +kernel
theorem dX11_copy_76 : decode cX11_copy 76 = .ok (.iload_n 2, 1) := by decide +kernel
theorem dX11_copy_77 : decode cX11_copy 77 = .ok (.aload_n 0, 1) := by decide +kernel
theorem dX11_copy_78 : decode cX11_copy 78 = .ok (.getfield 40, 3) := by decide +kernel
theorem dX11_copy_81 : decode cX11_copy 81 = .ok (.iload_n 1, 1) := by decide +kernel
theorem dX11_copy_82 : decode cX11_copy 82 = .ok (.iaload, 1) := by decide +kernel
theorem dX11_copy_83 : decode cX11_copy 83 = .ok (.if_icmp .gt 41, 3) := by decide +kernel
theorem dX11_copy_86 : decode cX11_copy 86 = .ok (.iload 4, 2) := by decide +kernel
theorem dX11_copy_88 : decode cX11_copy 88 = .ok (.aload_n 0, 1) := by decide +kernel
theorem dX11_copy_89 : decode cX11_copy 89 = .ok (.getfield 40, 3) := by decide +kernel
theorem dX11_copy_92 : decode cX11_copy 92 = .ok (.iload_n 3, 1) := by decide +kernel
theorem dX11_copy_93 : decode cX11_copy 93 = .ok (.iaload, 1) := by decide +kernel
theorem dX11_copy_94 : decode cX11_copy 94 = .ok (.if_icmp .gt 30, 3) := by decide +kernel
theorem dX11_copy_97 : decode cX11_copy 97 = .ok (.iload 5, 2) := by decide +kernel
theorem dX11_copy_99 : decode cX11_copy 99 = .ok (.aload_n 0, 1) := by decide +kernel
theorem dX11_copy_100 : decode cX11_copy 100 = .ok (.getfield 40, 3) := by decide +kernel
theorem dX11_copy_103 : decode cX11_copy 103 = .ok (.iload_n 1, 1) := by decide +kernel
theorem dX11_copy_104 : decode cX11_copy 104 = .ok (.iaload, 1) := by decide +kernel
theorem dX11_copy_105 : decode cX11_copy 105 = .ok (.iload_n 2, 1) := by decide +kernel
theorem dX11_copy_106 : decode cX11_copy 106 = .ok (.isub, 1) := by decide +kernel
theorem dX11_copy_107 : decode cX11_copy 107 = .ok (.if_icmp .gt 17, 3) := by decide +kernel
theorem dX11_copy_110 : decode cX11_copy 110 = .ok (.iload 5, 2) := by decide +kernel
theorem dX11_copy_112 : decode cX11_copy 112 = .ok (.aload_n 0, 1) := by decide +kernel
theorem dX11_copy_113 : decode cX11_copy 113 = .ok (.getfield 40, 3) := by decide +kernel
theorem dX11_copy_116 : decode cX11_copy 116 = .ok (.iload_n 3, 1) := by decide +kernel
theorem dX11_copy_117 : decode cX11_copy 117 = .ok (.iaload, 1) := by decide +kernel
theorem dX11_copy_118 : decode cX11_copy 118 = .ok (.iload 4, 2) := by decide +kernel
theorem dX11_copy_120 : decode cX11_copy 120 = .ok (.isub, 1) := by decide +kernel
theorem dX11_copy_121 : decode cX11_copy 121 = .ok (.if_icmp .le 6, 3) := by decide +kernel
theorem dX11_copy_124 : decode cX11_copy 124 = .ok (.bipush (-12), 2) := by decide +kernel
theorem dX11_copy_126 : decode cX11_copy 126 = .ok (.ireturn, 1) := by decide +kernel
theorem dX11_copy_127 : decode cX11_copy 127 = .ok (.bipush 40, 2) := by decide +kernel
theorem dX11_copy_129 : decode cX11_copy 129 = .ok (.iload_n 1, 1) := by decide +kernel
theorem dX11_copy_130 : decode cX11_copy 130 = .ok (.imul, 1) := by decide +kernel
theorem dX11_copy_131 : decode cX11_copy 131 = .ok (.iload_n 2, 1) := by decide +kernel
theorem dX11_copy_132 : decode cX11_copy 132 = .ok (.iadd, 1) := by decide +kernel
theorem dX11_copy_133 : decode cX11_copy 133 = .ok (.istore 6, 2) := by decide +kernel
theorem dX11_copy_135 : decode cX11_copy 135 = .ok (.bipush 40, 2) := by decide +kernel
theorem dX11_copy_137 : decode cX11_copy 137 = .ok (.iload_n 3, 1) := by decide +kernel
theorem dX11_copy_138 : decode cX11_copy 138 = .ok (.imul, 1) := by decide +kernel
theorem dX11_copy_139 : decode cX11_copy 139 = .ok (.iload 4, 2) := by decide +kernel
theorem dX11_copy_141 : decode cX11_copy 141 = .ok (.iadd, 1) := by decide +kernel
theorem dX11_copy_142 : decode cX11_copy 142 = .ok (.istore 7, 2) := by decide +kernel
theorem dX11_copy_144 : decode cX11_copy 144 = .ok (.iconst 0, 1) := by decide +kernel
theorem dX11_copy_145 : decode cX11_copy 145 = .ok (.istore 8, 2) := by decide +kernel
theorem dX11_copy_147 : decode cX11_copy 147 = .ok (.iload 8, 2) := by decide +kernel
theorem dX11_copy_149 : decode cX11_copy 149 = .ok (.iload 5, 2) := by decide +kernel
theorem dX11_copy_151 : decode cX11_copy 151 = .ok (.if_icmp .ge 50, 3) := by decide +kernel
theorem dX11_copy_154 : decode cX11_copy 154 = .ok (.iload 6, 2) := by decide +kernel
theorem dX11_copy_156 : decode cX11_copy 156 = .ok (.iload 7, 2) := by decide +kernel
theorem dX11_copy_158 : decode cX11_copy 158 = .ok (.if_icmp .ge 13, 3) := by decide +kernel
theorem dX11_copy_161 : decode cX11_copy 161 = .ok (.iload 5, 2) := by decide +kernel
theorem dX11_copy_163 : decode cX11_copy 163 = .ok (.iconst 1, 1) := by decide +kernel
theorem dX11_copy_164 : decode cX11_copy 164 = .ok (.isub, 1) := by decide +kernel
theorem dX11_copy_165 : decode cX11_copy 165 = .ok (.iload 8, 2) := by decide +kernel
theorem dX11_copy_167 : decode cX11_copy 167 = .ok (.isub, 1) := by decide +kernel
theorem dX11_copy_168 : decode cX11_copy 168 = .ok (.goto 5, 3) := by decide +kernel
theorem dX11_copy_171 : decode cX11_copy 171 = .ok (.iload 8, 2) := by decide +kernel
theorem dX11_copy_173 : decode cX11_copy 173 = .ok (.istore 9, 2) := by decide +kernel
theorem dX11_copy_175 : decode cX11_copy 175 = .ok (.aload_n 0, 1) := by decide +kernel
theorem dX11_copy_176 : decode cX11_copy 176 = .ok (.getfield 43, 3) := by decide +kernel
theorem dX11_copy_179 : decode cX11_copy 179 = .ok (.iload 7, 2) := by decide +kernel
theorem dX11_copy_181 : decode cX11_copy 181 = .ok (.iload 9, 2) := by decide +kernel
theorem dX11_copy_183 : decode cX11_copy 183 = .ok (.iadd, 1) := by decide +kernel
theorem dX11_copy_184 : decode cX11_copy 184 = .ok (.aload_n 0, 1) := by decide +kernel
theorem dX11_copy_185 : decode cX11_copy 185 = .ok (.getfield 43, 3) := by decide +kernel
theorem dX11_copy_188 : decode cX11_copy 188 = .ok (.iload 6, 2) := by decide +kernel
theorem dX11_copy_190 : decode cX11_copy 190 = .ok (.iload 9, 2) := by decide +kernel
theorem dX11_copy_192 : decode cX11_copy 192 = .ok (.iadd, 1) := by decide +kernel
theorem dX11_copy_193 : decode cX11_copy 193 = .ok (.iaload, 1) := by decide +kernel
theorem dX11_copy_194 : decode cX11_copy 194 = .ok (.iastore, 1) := by decide +kernel
theorem dX11_copy_195 : decode cX11_copy 195 = .ok (.iinc 8 1, 3) := by decide +kernel
theorem dX11_copy_198 : decode cX11_copy 198 = .ok (.goto (-51), 3) := by decide +kernel
theorem dX11_copy_201 : decode cX11_copy 201 = .ok (.iload 5, 2) := by decide +kernel
theorem dX11_copy_203 : decode cX11_copy 203 = .ok (.ireturn, 1) := by decide +kernel
set_option maxHeartbeats 4000000 in
set_option maxRecDepth 100000 in
theorem c_X11_copy (d : Nat) (TX : gTX) (P B s : gS) (hR0 : RM TX P B s) (t i o j m : Int32) : gMt SM yX11_copy cX11_copy 10 (some .int) (d + 2) (fun ad => [.ref (ad 0), .int t, .int i, .int o, .int j, .int m]) s (gQi SM (fun r s' => RM TX P (s_coB B t i o j m) s' ∧ r = s_coR B t i o j m)) := by
  obtain ⟨nT, n, l, hR⟩ := hR0
  have hI := hR.1
  have hn6 : n ≤ 6 := hI.2.1.2.1
  have hl6 : l < 6 := mI_l6 hI
  have hxn : x_n P = n := x_nOf hI.2.1.1 hn6
  have hbI := hR.2.2
  have hnT6 : nT ≤ 6 := hI.2.1.2.2.2.2.1
  obtain ⟨tn0, htn0, etn0⟩ := hbI.2.1
  refine gMt_of SM_ok (by decide +kernel) (fun ad => [some (.ref (ad 0)), some (.int t), some (.int i), some (.int o), some (.int j), some (.int m), none, none, none, none]) (fun _ => rfl) (fun _ => rfl) (fun _ => Nat.le_of_ble_eq_true rfl) (fun E C0 => ?_)
  have C : gCx SM E RX11 cX11_copy 10 (some .int) (d + 2) := C0
  have f : Fr (fun q => q = 12) s s := Fr.rf
  refine G_iload_n (i := 1) C 1 dX11_copy_0 rfl rfl rfl ?_
  refine G_iconst (v := 0) C 2 dX11_copy_1 rfl rfl ?_
  refine G_iconst (v := 3) C 3 dX11_copy_2 rfl rfl ?_
  refine G_calli 6 (G_runS C Kc_X11_in KS_X11_78 (by omega) (c_X11_in 0 t 0 3 s) rfl rfl (Nat.le_of_ble_eq_true rfl) rfl dX11_copy_3) rfl (fun x3 s3 h3 => ?_)
  obtain ⟨es3, h3⟩ := h3
  have es3 := es3.symm
  subst es3
  refine G_if_eq C 18 9 dX11_copy_6 rfl rfl (fun c6 => ?_) (fun c6 => ?_)
  ·
    have k6 := h3.symm.trans c6
    refine G_bipush (v := (-2)) C 20 dX11_copy_18 rfl rfl ?_
    exact G_iret C dX11_copy_20 (⟨by unfold s_coB; rw [if_pos (by unfold s_coR; rw [if_pos k6]; decide)]; exact ⟨nT, n, l, hR⟩, by unfold s_coR; rw [if_pos k6]⟩)
  ·
    have k6 := g_neT h3 c6
    obtain ⟨ut, hut, eut⟩ := x_inR (b := 3) k6 rfl (by decide)
    have cut : t.toNatClampNeg = ut := by rw [eut, nI_clamp (by omega)]
    refine G_iload_n (i := 3) C 10 dX11_copy_9 rfl rfl rfl ?_
    refine G_iconst (v := 0) C 11 dX11_copy_10 rfl rfl ?_
    refine G_iconst (v := 3) C 12 dX11_copy_11 rfl rfl ?_
    refine G_calli 15 (G_runS C Kc_X11_in KS_X11_78 (by omega) (c_X11_in 0 o 0 3 s) rfl rfl (Nat.le_of_ble_eq_true rfl) rfl dX11_copy_12) rfl (fun x12 s12 h12 => ?_)
    obtain ⟨es12, h12⟩ := h12
    have es12 := es12.symm
    subst es12
    refine G_if_ne C 21 18 dX11_copy_15 rfl rfl (fun c15 => ?_) (fun c15 => ?_)
    ·
      have k15 := g_neT h12 c15
      obtain ⟨uo, huo, euo⟩ := x_inR (b := 3) k15 rfl (by decide)
      have cuo : o.toNatClampNeg = uo := by rw [euo, nI_clamp (by omega)]
      refine G_aload_n (i := 0) C 22 dX11_copy_21 rfl rfl rfl ?_
      refine X11_37g C 25 dX11_copy_22 rfl ?_
      refine G_iload_n (i := 1) C 26 dX11_copy_25 rfl rfl rfl ?_
      refine G_iald (n := 4) C 27 (by decide) (eMk (by decide) _ _ _) (ut) eut (by omega) (by decide) dX11_copy_26 rfl (fun x26 ex26 => ?_)
      have Sx26 : x26 = B 2 ut := ex26.trans (mB_so hR.2.1 (by omega))
      refine G_iconst (v := (-1)) C 28 dX11_copy_27 rfl rfl ?_
      refine G_icmp_eq C 41 31 dX11_copy_28 rfl rfl (fun c28 => ?_) (fun c28 => ?_)
      ·
        refine G_bipush (v := (-11)) C 43 dX11_copy_41 rfl rfl ?_
        exact G_iret C dX11_copy_43 (⟨by unfold s_coB; rw [if_pos (by unfold s_coR; rw [if_neg k6, if_neg k15, cut, cuo, if_pos (Sx26.symm.trans c28)]; decide)]; exact ⟨nT, n, l, hR⟩, by unfold s_coR; rw [if_neg k6, if_neg k15, cut, cuo, if_pos (Sx26.symm.trans c28)]⟩)
      ·
        obtain ⟨sot, zt, hsot, hzt, esot, ezt⟩ := (hbI.2.2.2.2.1 ut (by omega)).resolve_left (fun w => (fun w2 => c28 (Sx26.trans w2)) w.1)
        refine G_aload_n (i := 0) C 32 dX11_copy_31 rfl rfl rfl ?_
        refine X11_37g C 35 dX11_copy_32 rfl ?_
        refine G_iload_n (i := 3) C 36 dX11_copy_35 rfl rfl rfl ?_
        refine G_iald (n := 4) C 37 (by decide) (eMk (by decide) _ _ _) (uo) euo (by omega) (by decide) dX11_copy_36 rfl (fun x36 ex36 => ?_)
        have Sx36 : x36 = B 2 uo := ex36.trans (mB_so hR.2.1 (by omega))
        refine G_iconst (v := (-1)) C 38 dX11_copy_37 rfl rfl ?_
        refine G_icmp_ne C 44 41 dX11_copy_38 rfl rfl (fun c38 => ?_) (fun c38 => ?_)
        ·
          obtain ⟨soo, zo, hsoo, hzo, esoo, ezo⟩ := (hbI.2.2.2.2.1 uo (by omega)).resolve_left (fun w => (fun w2 => c38 (Sx36.trans w2)) w.1)
          refine G_aload_n (i := 0) C 45 dX11_copy_44 rfl rfl rfl ?_
          refine X11_37g C 48 dX11_copy_45 rfl ?_
          refine G_iload_n (i := 1) C 49 dX11_copy_48 rfl rfl rfl ?_
          refine G_iald (n := 4) C 50 (by decide) (eMk (by decide) _ _ _) (ut) eut (by omega) (by decide) dX11_copy_49 rfl (fun x49 ex49 => ?_)
          have Sx49 : x49 = B 2 ut := ex49.trans (mB_so hR.2.1 (by omega))
          refine G_aload_n (i := 0) C 51 dX11_copy_50 rfl rfl rfl ?_
          refine X11_37g C 54 dX11_copy_51 rfl ?_
          refine G_iload_n (i := 3) C 55 dX11_copy_54 rfl rfl rfl ?_
          refine G_iald (n := 4) C 56 (by decide) (eMk (by decide) _ _ _) (uo) euo (by omega) (by decide) dX11_copy_55 rfl (fun x55 ex55 => ?_)
          have Sx55 : x55 = B 2 uo := ex55.trans (mB_so hR.2.1 (by omega))
          refine G_icmp_eq C 62 59 dX11_copy_56 rfl rfl (fun c56 => ?_) (fun c56 => ?_)
          ·
            refine G_iload C 64 dX11_copy_62 rfl rfl ?_
            refine G_if_lt C 124 67 dX11_copy_64 rfl rfl (fun c64 => ?_) (fun c64 => ?_)
            ·
              refine G_bipush (v := (-12)) C 126 dX11_copy_124 rfl rfl ?_
              have hbad : x_hol (B 3 ut) i m = 0 ∨ x_hol (B 3 uo) j m = 0 := Or.inl (by unfold x_hol; rw [if_pos c64]; split <;> rfl)
              have hr : s_coR B t i o j m = -12 := by
                unfold s_coR
                rw [if_neg k6, if_neg k15, cut, cuo, if_neg (fun w => c28 (Sx26.trans w)), if_neg (fun w => c38 (Sx36.trans w)), if_pos (by rw [← Sx49, ← Sx55]; exact c56)]
                by_cases hx : x_hol (B 3 ut) i m = 0
                · rw [if_pos hx]
                · rw [if_neg hx, if_pos (hbad.resolve_left hx)]
              exact G_iret C dX11_copy_126 (⟨by unfold s_coB; rw [hr, if_pos (by decide)]; exact ⟨nT, n, l, hR⟩, hr.symm⟩)
            ·
              refine G_iload_n (i := 2) C 68 dX11_copy_67 rfl rfl rfl ?_
              refine G_if_lt C 124 71 dX11_copy_68 rfl rfl (fun c68 => ?_) (fun c68 => ?_)
              ·
                refine G_bipush (v := (-12)) C 126 dX11_copy_124 rfl rfl ?_
                have hbad : x_hol (B 3 ut) i m = 0 ∨ x_hol (B 3 uo) j m = 0 := Or.inl (by unfold x_hol; rw [if_pos c68])
                have hr : s_coR B t i o j m = -12 := by
                  unfold s_coR
                  rw [if_neg k6, if_neg k15, cut, cuo, if_neg (fun w => c28 (Sx26.trans w)), if_neg (fun w => c38 (Sx36.trans w)), if_pos (by rw [← Sx49, ← Sx55]; exact c56)]
                  by_cases hx : x_hol (B 3 ut) i m = 0
                  · rw [if_pos hx]
                  · rw [if_neg hx, if_pos (hbad.resolve_left hx)]
                exact G_iret C dX11_copy_126 (⟨by unfold s_coB; rw [hr, if_pos (by decide)]; exact ⟨nT, n, l, hR⟩, hr.symm⟩)
              ·
                refine G_iload C 73 dX11_copy_71 rfl rfl ?_
                refine G_if_lt C 124 76 dX11_copy_73 rfl rfl (fun c73 => ?_) (fun c73 => ?_)
                ·
                  refine G_bipush (v := (-12)) C 126 dX11_copy_124 rfl rfl ?_
                  have hbad : x_hol (B 3 ut) i m = 0 ∨ x_hol (B 3 uo) j m = 0 := Or.inr (by unfold x_hol; rw [if_pos c73])
                  have hr : s_coR B t i o j m = -12 := by
                    unfold s_coR
                    rw [if_neg k6, if_neg k15, cut, cuo, if_neg (fun w => c28 (Sx26.trans w)), if_neg (fun w => c38 (Sx36.trans w)), if_pos (by rw [← Sx49, ← Sx55]; exact c56)]
                    by_cases hx : x_hol (B 3 ut) i m = 0
                    · rw [if_pos hx]
                    · rw [if_neg hx, if_pos (hbad.resolve_left hx)]
                  exact G_iret C dX11_copy_126 (⟨by unfold s_coB; rw [hr, if_pos (by decide)]; exact ⟨nT, n, l, hR⟩, hr.symm⟩)
                ·
                  refine G_iload_n (i := 2) C 77 dX11_copy_76 rfl rfl rfl ?_
                  refine G_aload_n (i := 0) C 78 dX11_copy_77 rfl rfl rfl ?_
                  refine X11_40g C 81 dX11_copy_78 rfl ?_
                  refine G_iload_n (i := 1) C 82 dX11_copy_81 rfl rfl rfl ?_
                  refine G_iald (n := 4) C 83 (by decide) (eMk (by decide) _ _ _) (ut) eut (by omega) (by decide) dX11_copy_82 rfl (fun x82 ex82 => ?_)
                  have Sx82 : x82 = B 3 ut := ex82.trans (mB_sz hR.2.1 (by omega))
                  refine G_icmp_gt C 124 86 dX11_copy_83 rfl rfl (fun c83 => ?_) (fun c83 => ?_)
                  ·
                    refine G_bipush (v := (-12)) C 126 dX11_copy_124 rfl rfl ?_
                    have hbad : x_hol (B 3 ut) i m = 0 ∨ x_hol (B 3 uo) j m = 0 := Or.inl (by rw [ezt]; exact (hol_i (by omega) c64 c68).mpr (Or.inl (by rw [← ezt, ← Sx82]; exact c83)))
                    have hr : s_coR B t i o j m = -12 := by
                      unfold s_coR
                      rw [if_neg k6, if_neg k15, cut, cuo, if_neg (fun w => c28 (Sx26.trans w)), if_neg (fun w => c38 (Sx36.trans w)), if_pos (by rw [← Sx49, ← Sx55]; exact c56)]
                      by_cases hx : x_hol (B 3 ut) i m = 0
                      · rw [if_pos hx]
                      · rw [if_neg hx, if_pos (hbad.resolve_left hx)]
                    exact G_iret C dX11_copy_126 (⟨by unfold s_coB; rw [hr, if_pos (by decide)]; exact ⟨nT, n, l, hR⟩, hr.symm⟩)
                  ·
                    refine G_iload C 88 dX11_copy_86 rfl rfl ?_
                    refine G_aload_n (i := 0) C 89 dX11_copy_88 rfl rfl rfl ?_
                    refine X11_40g C 92 dX11_copy_89 rfl ?_
                    refine G_iload_n (i := 3) C 93 dX11_copy_92 rfl rfl rfl ?_
                    refine G_iald (n := 4) C 94 (by decide) (eMk (by decide) _ _ _) (uo) euo (by omega) (by decide) dX11_copy_93 rfl (fun x93 ex93 => ?_)
                    have Sx93 : x93 = B 3 uo := ex93.trans (mB_sz hR.2.1 (by omega))
                    refine G_icmp_gt C 124 97 dX11_copy_94 rfl rfl (fun c94 => ?_) (fun c94 => ?_)
                    ·
                      refine G_bipush (v := (-12)) C 126 dX11_copy_124 rfl rfl ?_
                      have hbad : x_hol (B 3 ut) i m = 0 ∨ x_hol (B 3 uo) j m = 0 := Or.inr (by rw [ezo]; exact (hol_i (by omega) c64 c73).mpr (Or.inl (by rw [← ezo, ← Sx93]; exact c94)))
                      have hr : s_coR B t i o j m = -12 := by
                        unfold s_coR
                        rw [if_neg k6, if_neg k15, cut, cuo, if_neg (fun w => c28 (Sx26.trans w)), if_neg (fun w => c38 (Sx36.trans w)), if_pos (by rw [← Sx49, ← Sx55]; exact c56)]
                        by_cases hx : x_hol (B 3 ut) i m = 0
                        · rw [if_pos hx]
                        · rw [if_neg hx, if_pos (hbad.resolve_left hx)]
                      exact G_iret C dX11_copy_126 (⟨by unfold s_coB; rw [hr, if_pos (by decide)]; exact ⟨nT, n, l, hR⟩, hr.symm⟩)
                    ·
                      refine G_iload C 99 dX11_copy_97 rfl rfl ?_
                      refine G_aload_n (i := 0) C 100 dX11_copy_99 rfl rfl rfl ?_
                      refine X11_40g C 103 dX11_copy_100 rfl ?_
                      refine G_iload_n (i := 1) C 104 dX11_copy_103 rfl rfl rfl ?_
                      refine G_iald (n := 4) C 105 (by decide) (eMk (by decide) _ _ _) (ut) eut (by omega) (by decide) dX11_copy_104 rfl (fun x104 ex104 => ?_)
                      have Sx104 : x104 = B 3 ut := ex104.trans (mB_sz hR.2.1 (by omega))
                      refine G_iload_n (i := 2) C 106 dX11_copy_105 rfl rfl rfl ?_
                      refine G_isub C 107 dX11_copy_106 rfl (fun x106 ex106 => ?_)
                      refine G_icmp_gt C 124 110 dX11_copy_107 rfl rfl (fun c107 => ?_) (fun c107 => ?_)
                      ·
                        refine G_bipush (v := (-12)) C 126 dX11_copy_124 rfl rfl ?_
                        have hbad : x_hol (B 3 ut) i m = 0 ∨ x_hol (B 3 uo) j m = 0 := Or.inl (by rw [ezt]; exact (hol_i (by omega) c64 c68).mpr (Or.inr (by rw [← ezt, ← Sx104, ← ex106]; exact c107)))
                        have hr : s_coR B t i o j m = -12 := by
                          unfold s_coR
                          rw [if_neg k6, if_neg k15, cut, cuo, if_neg (fun w => c28 (Sx26.trans w)), if_neg (fun w => c38 (Sx36.trans w)), if_pos (by rw [← Sx49, ← Sx55]; exact c56)]
                          by_cases hx : x_hol (B 3 ut) i m = 0
                          · rw [if_pos hx]
                          · rw [if_neg hx, if_pos (hbad.resolve_left hx)]
                        exact G_iret C dX11_copy_126 (⟨by unfold s_coB; rw [hr, if_pos (by decide)]; exact ⟨nT, n, l, hR⟩, hr.symm⟩)
                      ·
                        refine G_iload C 112 dX11_copy_110 rfl rfl ?_
                        refine G_aload_n (i := 0) C 113 dX11_copy_112 rfl rfl rfl ?_
                        refine X11_40g C 116 dX11_copy_113 rfl ?_
                        refine G_iload_n (i := 3) C 117 dX11_copy_116 rfl rfl rfl ?_
                        refine G_iald (n := 4) C 118 (by decide) (eMk (by decide) _ _ _) (uo) euo (by omega) (by decide) dX11_copy_117 rfl (fun x117 ex117 => ?_)
                        have Sx117 : x117 = B 3 uo := ex117.trans (mB_sz hR.2.1 (by omega))
                        refine G_iload C 120 dX11_copy_118 rfl rfl ?_
                        refine G_isub C 121 dX11_copy_120 rfl (fun x120 ex120 => ?_)
                        refine G_icmp_le C 127 124 dX11_copy_121 rfl rfl (fun c121 => ?_) (fun c121 => ?_)
                        ·
                          have hg1 : ¬ x_hol (B 3 ut) i m = 0 := by
                            rw [ezt]
                            intro w
                            rcases (hol_i (by omega) c64 c68).mp w with q | q
                            · exact c83 (by rw [Sx82, ezt]; exact q)
                            · exact c107 (by rw [ex106, Sx104, ezt]; exact q)
                          have hg2 : ¬ x_hol (B 3 uo) j m = 0 := by
                            rw [ezo]
                            intro w
                            rcases (hol_i (by omega) c64 c73).mp w with q | q
                            · exact c94 (by rw [Sx93, ezo]; exact q)
                            · exact c121 (by rw [ex120, Sx117, ezo]; exact q)
                          have hr : s_coR B t i o j m = m := by unfold s_coR; rw [if_neg k6, if_neg k15, cut, cuo, if_neg (fun w => c28 (Sx26.trans w)), if_neg (fun w => c38 (Sx36.trans w)), if_pos (by rw [← Sx49, ← Sx55]; exact c56), if_neg hg1, if_neg hg2]
                          obtain ⟨a, c, ei, em, hac⟩ := x_holT (z := zt) (by omega) (by rw [← ezt]; exact hg1)
                          obtain ⟨b, c2, ej, em2, hbc2⟩ := x_holT (z := zo) (by omega) (by rw [← ezo]; exact hg2)
                          have hcc : c2 = c := by
                            have z2 := em2
                            rw [em, nI_eq (by omega) (by omega)] at z2
                            exact z2.symm
                          have hbc : b + c ≤ zo := by omega
                          refine G_bipush (v := 40) C 129 dX11_copy_127 rfl rfl ?_
                          refine G_iload_n (i := 1) C 130 dX11_copy_129 rfl rfl rfl ?_
                          refine G_imul C 131 dX11_copy_130 rfl (fun x130 ex130 => ?_)
                          have Nx130 : x130 = nI (40 * ut) := g_mulN ex130 rfl eut
                          refine G_iload_n (i := 2) C 132 dX11_copy_131 rfl rfl rfl ?_
                          refine G_iadd C 133 dX11_copy_132 rfl (fun x132 ex132 => ?_)
                          have Nx132 : x132 = nI ((40 * ut) + a) := g_addN ex132 Nx130 ei
                          refine G_istore (L' := [some (.ref (e_ad E 0)), some (.int t), some (.int i), some (.int o), some (.int j), some (.int m), some (.int x132), none, none, none]) C 135 dX11_copy_133 rfl (Nat.le_of_ble_eq_true rfl) rfl rfl ?_
                          refine G_bipush (v := 40) C 137 dX11_copy_135 rfl rfl ?_
                          refine G_iload_n (i := 3) C 138 dX11_copy_137 rfl rfl rfl ?_
                          refine G_imul C 139 dX11_copy_138 rfl (fun x138 ex138 => ?_)
                          have Nx138 : x138 = nI (40 * uo) := g_mulN ex138 rfl euo
                          refine G_iload C 141 dX11_copy_139 rfl rfl ?_
                          refine G_iadd C 142 dX11_copy_141 rfl (fun x141 ex141 => ?_)
                          have Nx141 : x141 = nI ((40 * uo) + b) := g_addN ex141 Nx138 ej
                          refine G_istore (L' := [some (.ref (e_ad E 0)), some (.int t), some (.int i), some (.int o), some (.int j), some (.int m), some (.int x132), some (.int x141), none, none]) C 144 dX11_copy_142 rfl (Nat.le_of_ble_eq_true rfl) rfl rfl ?_
                          refine G_iconst (v := 0) C 145 dX11_copy_144 rfl rfl ?_
                          refine G_istore (L' := [some (.ref (e_ad E 0)), some (.int t), some (.int i), some (.int o), some (.int j), some (.int m), some (.int x132), some (.int x141), some (.int 0), none]) C 147 dX11_copy_145 rfl (Nat.le_of_ble_eq_true rfl) rfl rfl ?_
                          have L147 : ∀ (f147 : Nat) (k : Nat) (y : Int32) (sl147 : gS) (Ey : y = nI k) (hk : k ≤ c) (hcp : ∀ i, sl147 12 i = if (if 40 * ut + a < 40 * uo + b then 40 * uo + b + (c - k) else 40 * uo + b) ≤ i ∧ i < (if 40 * ut + a < 40 * uo + b then 40 * uo + b + c else 40 * uo + b + k) then s 12 (40 * ut + a + (i - (40 * uo + b))) else s 12 i) (fl147 : Fr (fun q => q = 12) s sl147), c < k + f147 → GW SM E (gFin SM E (gQi SM (fun r s' => RM TX P (s_coB B t i o j m) s' ∧ r = s_coR B t i o j m))) 147 [some (.ref (e_ad E 0)), some (.int t), some (.int i), some (.int o), some (.int j), some (.int m), some (.int x132), some (.int x141), some (.int y), none] [] sl147 := by
                            intro f147
                            induction f147 with
                            | zero =>
                              intro k y sl147 Ey hk hcp fl147 hf147
                              exact absurd hf147 (by omega)
                            | succ f147 ih147 =>
                              intro k y sl147 Ey hk hcp fl147 hf147
                              refine G_iload C 149 dX11_copy_147 rfl rfl ?_
                              refine G_iload C 151 dX11_copy_149 rfl rfl ?_
                              refine G_icmp_ge C 201 154 dX11_copy_151 rfl rfl (fun c151 => ?_) (fun c151 => ?_)
                              ·
                                have n151 : ¬ k < c := fun h => c151 ((g_ltN (a := k) (b := c) (hx := Ey) (hy := em) (by omega) (by omega)).mpr h)
                                refine G_iload C 203 dX11_copy_201 rfl rfl ?_
                                exact G_iret C dX11_copy_203 (⟨by
                                    have e : k = c := by omega
                                    subst e
                                    unfold s_coB; rw [hr, if_neg (by rw [em]; exact nI_pos (by omega)), cut, cuo, ei, ej, em, nI_clamp (by omega), nI_clamp (by omega), nI_clamp (by omega)]
                                    refine ⟨nT, n, l, Rm_num hR (by omega) fl147 (fun q hq => ?_) (fun i hi => ?_) (fun q hq => ?_)⟩
                                    · rw [hcp]
                                      by_cases h : b ≤ q ∧ q < b + k
                                      · rw [if_pos (by split <;> omega), if_pos h, show 40 * ut + a + (40 * uo + q - (40 * uo + b)) = 40 * ut + (a + (q - b)) by omega, mB_nu hR.2.1 (by omega) (by omega)]
                                      · rw [if_neg (by split <;> omega), if_neg h, mB_nu hR.2.1 (by omega) hq]
                                    · rw [hcp, if_neg]
                                      intro z
                                      have h1 : 40 * uo + b ≤ i ∧ i < 40 * uo + b + k := by
                                        revert z
                                        split <;> (intro z; omega)
                                      exact hi (i - 40 * uo) (by omega) (by omega)
                                    · rw [if_neg (by omega), mB_n40 hR.2.1 (by omega) hq], hr.symm⟩)
                              ·
                                have n151 : k < c := (g_ltN (a := k) (b := c) (hx := Ey) (hy := em) (by omega) (by omega)).mp c151
                                refine G_iload C 156 dX11_copy_154 rfl rfl ?_
                                refine G_iload C 158 dX11_copy_156 rfl rfl ?_
                                refine G_icmp_ge C 171 161 dX11_copy_158 rfl rfl (fun c158 => ?_) (fun c158 => ?_)
                                ·
                                  have n158 : ¬ ((40 * ut) + a) < ((40 * uo) + b) := fun h => c158 ((g_ltN (a := ((40 * ut) + a)) (b := ((40 * uo) + b)) (hx := Nx132) (hy := Nx141) (by omega) (by omega)).mpr h)
                                  refine G_iload C 173 dX11_copy_171 rfl rfl ?_
                                  refine G_istore (L' := [some (.ref (e_ad E 0)), some (.int t), some (.int i), some (.int o), some (.int j), some (.int m), some (.int x132), some (.int x141), some (.int y), some (.int y)]) C 175 dX11_copy_173 rfl (Nat.le_of_ble_eq_true rfl) rfl rfl ?_
                                  refine G_aload_n (i := 0) C 176 dX11_copy_175 rfl rfl rfl ?_
                                  refine X11_43g C 179 dX11_copy_176 rfl ?_
                                  refine G_iload C 181 dX11_copy_179 rfl rfl ?_
                                  refine G_iload C 183 dX11_copy_181 rfl rfl ?_
                                  refine G_iadd C 184 dX11_copy_183 rfl (fun x183 ex183 => ?_)
                                  have Nx183 : x183 = nI (((40 * uo) + b) + k) := g_addN ex183 Nx141 Ey
                                  refine G_aload_n (i := 0) C 185 dX11_copy_184 rfl rfl rfl ?_
                                  refine X11_43g C 188 dX11_copy_185 rfl ?_
                                  refine G_iload C 190 dX11_copy_188 rfl rfl ?_
                                  refine G_iload C 192 dX11_copy_190 rfl rfl ?_
                                  refine G_iadd C 193 dX11_copy_192 rfl (fun x192 ex192 => ?_)
                                  have Nx192 : x192 = nI (((40 * ut) + a) + k) := g_addN ex192 Nx132 Ey
                                  refine G_iald (n := 160) C 194 (by decide) (eMk (by decide) _ _ _) ((((40 * ut) + a) + k)) Nx192 (by omega) (by decide) dX11_copy_193 rfl (fun x193 ex193 => ?_)
                                  refine G_iast (n := 160) C 195 (by decide) (fun σ => eMk (by decide) _ _ σ) ((((40 * uo) + b) + k)) Nx183 (by omega) (by decide) (Nat.le_refl _) dX11_copy_194 rfl (fun s194 es194 => ?_)
                                  have f_1 : Fr (fun q => q = 12) s s194 := Fr.tr fl147 (Fr.up es194 rfl)
                                  refine G_iinc (w := 1) C 198 dX11_copy_195 rfl rfl rfl rfl (fun x195 ex195 => ?_)
                                  have Nx195 : x195 = nI (k + 1) := g_addN ex195 Ey rfl
                                  show GW SM E _ 198 [some (.ref (e_ad E 0)), some (.int t), some (.int i), some (.int o), some (.int j), some (.int m), some (.int x132), some (.int x141), some (.int x195), some (.int y)] [] s194
                                  refine G_goto C 147 dX11_copy_198 rfl ?_
                                  refine G_drop (L' := [some (.ref (e_ad E 0)), some (.int t), some (.int i), some (.int o), some (.int j), some (.int m), some (.int x132), some (.int x141), some (.int x195), none]) ⟨rfl, rfl, rfl, rfl, rfl, rfl, rfl, rfl, rfl, trivial⟩ ?_
                                  exact ih147 (k + 1) x195 s194 (g_cn (a := (k + 1)) Nx195 (by first | rfl | omega | (simp only [List.length_cons, List.length_drop]; done) | (simp only [List.length_cons, List.length_drop]; omega))) (by omega) (fun i => by
                                          rw [if_neg n158, if_neg n158]
                                          have z : ∀ i, sl147 12 i = if 40 * uo + b ≤ i ∧ i < 40 * uo + b + k then s 12 (40 * ut + a + (i - (40 * uo + b))) else s 12 i := fun i => by
                                            have y := hcp i
                                            rw [if_neg n158, if_neg n158] at y
                                            exact y
                                          rw [es194, g_up_sj]
                                          by_cases e : i = 40 * uo + b + k
                                          · rw [if_pos e, if_pos (by omega), ex193, z, if_neg (by omega), show 40 * ut + a + (i - (40 * uo + b)) = 40 * ut + a + k by omega]
                                          · rw [if_neg e, z]
                                            by_cases h : 40 * uo + b ≤ i ∧ i < 40 * uo + b + (k + 1)
                                            · rw [if_pos (by omega), if_pos h]
                                            · rw [if_neg (by omega), if_neg h]) f_1 (by omega)
                                ·
                                  have n158 : ((40 * ut) + a) < ((40 * uo) + b) := (g_ltN (a := ((40 * ut) + a)) (b := ((40 * uo) + b)) (hx := Nx132) (hy := Nx141) (by omega) (by omega)).mp c158
                                  refine G_iload C 163 dX11_copy_161 rfl rfl ?_
                                  refine G_iconst (v := 1) C 164 dX11_copy_163 rfl rfl ?_
                                  refine G_isub C 165 dX11_copy_164 rfl (fun x164 ex164 => ?_)
                                  have Nx164 : x164 = nI (c - 1) := g_subN ex164 em rfl (by omega)
                                  refine G_iload C 167 dX11_copy_165 rfl rfl ?_
                                  refine G_isub C 168 dX11_copy_167 rfl (fun x167 ex167 => ?_)
                                  have Nx167 : x167 = nI (c - 1 - k) := g_subN ex167 Nx164 Ey (by omega)
                                  refine G_goto C 173 dX11_copy_168 rfl ?_
                                  refine G_istore (L' := [some (.ref (e_ad E 0)), some (.int t), some (.int i), some (.int o), some (.int j), some (.int m), some (.int x132), some (.int x141), some (.int y), some (.int x167)]) C 175 dX11_copy_173 rfl (Nat.le_of_ble_eq_true rfl) rfl rfl ?_
                                  refine G_aload_n (i := 0) C 176 dX11_copy_175 rfl rfl rfl ?_
                                  refine X11_43g C 179 dX11_copy_176 rfl ?_
                                  refine G_iload C 181 dX11_copy_179 rfl rfl ?_
                                  refine G_iload C 183 dX11_copy_181 rfl rfl ?_
                                  refine G_iadd C 184 dX11_copy_183 rfl (fun x183 ex183 => ?_)
                                  have Nx183 : x183 = nI (((40 * uo) + b) + (c - 1 - k)) := g_addN ex183 Nx141 Nx167
                                  refine G_aload_n (i := 0) C 185 dX11_copy_184 rfl rfl rfl ?_
                                  refine X11_43g C 188 dX11_copy_185 rfl ?_
                                  refine G_iload C 190 dX11_copy_188 rfl rfl ?_
                                  refine G_iload C 192 dX11_copy_190 rfl rfl ?_
                                  refine G_iadd C 193 dX11_copy_192 rfl (fun x192 ex192 => ?_)
                                  have Nx192 : x192 = nI (((40 * ut) + a) + (c - 1 - k)) := g_addN ex192 Nx132 Nx167
                                  refine G_iald (n := 160) C 194 (by decide) (eMk (by decide) _ _ _) ((((40 * ut) + a) + (c - 1 - k))) Nx192 (by omega) (by decide) dX11_copy_193 rfl (fun x193 ex193 => ?_)
                                  refine G_iast (n := 160) C 195 (by decide) (fun σ => eMk (by decide) _ _ σ) ((((40 * uo) + b) + (c - 1 - k))) Nx183 (by omega) (by decide) (Nat.le_refl _) dX11_copy_194 rfl (fun s194 es194 => ?_)
                                  have f_1 : Fr (fun q => q = 12) s s194 := Fr.tr fl147 (Fr.up es194 rfl)
                                  refine G_iinc (w := 1) C 198 dX11_copy_195 rfl rfl rfl rfl (fun x195 ex195 => ?_)
                                  have Nx195 : x195 = nI (k + 1) := g_addN ex195 Ey rfl
                                  show GW SM E _ 198 [some (.ref (e_ad E 0)), some (.int t), some (.int i), some (.int o), some (.int j), some (.int m), some (.int x132), some (.int x141), some (.int x195), some (.int x167)] [] s194
                                  refine G_goto C 147 dX11_copy_198 rfl ?_
                                  refine G_drop (L' := [some (.ref (e_ad E 0)), some (.int t), some (.int i), some (.int o), some (.int j), some (.int m), some (.int x132), some (.int x141), some (.int x195), none]) ⟨rfl, rfl, rfl, rfl, rfl, rfl, rfl, rfl, rfl, trivial⟩ ?_
                                  exact ih147 (k + 1) x195 s194 (g_cn (a := (k + 1)) Nx195 (by first | rfl | omega | (simp only [List.length_cons, List.length_drop]; done) | (simp only [List.length_cons, List.length_drop]; omega))) (by omega) (fun i => by
                                          rw [if_pos n158, if_pos n158]
                                          have z : ∀ i, sl147 12 i = if 40 * uo + b + (c - k) ≤ i ∧ i < 40 * uo + b + c then s 12 (40 * ut + a + (i - (40 * uo + b))) else s 12 i := fun i => by
                                            have y := hcp i
                                            rw [if_pos n158, if_pos n158] at y
                                            exact y
                                          rw [es194, g_up_sj]
                                          by_cases e : i = 40 * uo + b + (c - 1 - k)
                                          · rw [if_pos e, if_pos (by omega), ex193, z, if_neg (by omega), show 40 * ut + a + (i - (40 * uo + b)) = 40 * ut + a + (c - 1 - k) by omega]
                                          · rw [if_neg e, z]
                                            by_cases h : 40 * uo + b + (c - (k + 1)) ≤ i ∧ i < 40 * uo + b + c
                                            · rw [if_pos (by omega), if_pos h]
                                            · rw [if_neg (by omega), if_neg h]) f_1 (by omega)
                          exact L147 (c + 1) 0 0 s (g_cn (a := 0) rfl (by first | rfl | omega)) (by omega) (fun i => by rw [if_neg (by split <;> omega)]) f (by omega)
                        ·
                          refine G_bipush (v := (-12)) C 126 dX11_copy_124 rfl rfl ?_
                          have hbad : x_hol (B 3 ut) i m = 0 ∨ x_hol (B 3 uo) j m = 0 := Or.inr (by rw [ezo]; exact (hol_i (by omega) c64 c73).mpr (Or.inr (by rw [← ezo, ← Sx117, ← ex120]; exact c121)))
                          have hr : s_coR B t i o j m = -12 := by
                            unfold s_coR
                            rw [if_neg k6, if_neg k15, cut, cuo, if_neg (fun w => c28 (Sx26.trans w)), if_neg (fun w => c38 (Sx36.trans w)), if_pos (by rw [← Sx49, ← Sx55]; exact c56)]
                            by_cases hx : x_hol (B 3 ut) i m = 0
                            · rw [if_pos hx]
                            · rw [if_neg hx, if_pos (hbad.resolve_left hx)]
                          exact G_iret C dX11_copy_126 (⟨by unfold s_coB; rw [hr, if_pos (by decide)]; exact ⟨nT, n, l, hR⟩, hr.symm⟩)
          ·
            refine G_bipush (v := (-13)) C 61 dX11_copy_59 rfl rfl ?_
            exact G_iret C dX11_copy_61 (⟨by unfold s_coB; rw [if_pos (by unfold s_coR; rw [if_neg k6, if_neg k15, cut, cuo, if_neg (fun w => c28 (Sx26.trans w)), if_neg (fun w => c38 (Sx36.trans w)), if_neg (by rw [← Sx49, ← Sx55]; exact c56)]; decide)]; exact ⟨nT, n, l, hR⟩, by unfold s_coR; rw [if_neg k6, if_neg k15, cut, cuo, if_neg (fun w => c28 (Sx26.trans w)), if_neg (fun w => c38 (Sx36.trans w)), if_neg (by rw [← Sx49, ← Sx55]; exact c56)]⟩)
        ·
          refine G_bipush (v := (-11)) C 43 dX11_copy_41 rfl rfl ?_
          exact G_iret C dX11_copy_43 (⟨by unfold s_coB; rw [if_pos (by unfold s_coR; rw [if_neg k6, if_neg k15, cut, cuo, if_neg (fun w => c28 (Sx26.trans w)), if_pos (Sx36.symm.trans c38)]; decide)]; exact ⟨nT, n, l, hR⟩, by unfold s_coR; rw [if_neg k6, if_neg k15, cut, cuo, if_neg (fun w => c28 (Sx26.trans w)), if_pos (Sx36.symm.trans c38)]⟩)
    ·
      have k15 := h12.symm.trans c15
      refine G_bipush (v := (-2)) C 20 dX11_copy_18 rfl rfl ?_
      exact G_iret C dX11_copy_20 (⟨by unfold s_coB; rw [if_pos (by unfold s_coR; rw [if_neg k6, if_pos k15]; decide)]; exact ⟨nT, n, l, hR⟩, by unfold s_coR; rw [if_neg k6, if_pos k15]⟩)
theorem dX11_peopleBy_0 : decode cX11_peopleBy 0 = .ok (.iload_n 1, 1) := by decide +kernel
theorem dX11_peopleBy_1 : decode cX11_peopleBy 1 = .ok (.iconst 0, 1) := by decide +kernel
theorem dX11_peopleBy_2 : decode cX11_peopleBy 2 = .ok (.iconst 3, 1) := by decide +kernel
theorem dX11_peopleBy_3 : decode cX11_peopleBy 3 = .ok (.invokestatic 78, 3) := by decide +kernel
theorem dX11_peopleBy_6 : decode cX11_peopleBy 6 = .ok (.ifCond .eq 23, 3) := by decide +kernel
theorem dX11_peopleBy_9 : decode cX11_peopleBy 9 = .ok (.iload_n 2, 1) := by decide +kernel
theorem dX11_peopleBy_10 : decode cX11_peopleBy 10 = .ok (.iconst 0, 1) := by decide +kernel
theorem dX11_peopleBy_11 : decode cX11_peopleBy 11 = .ok (.iconst 2, 1) := by decide +kernel
theorem dX11_peopleBy_12 : decode cX11_peopleBy 12 = .ok (.invokestatic 78, 3) := by decide +kernel
theorem dX11_peopleBy_15 : decode cX11_peopleBy 15 = .ok (.ifCond .eq 14, 3) := by decide +kernel
theorem dX11_peopleBy_18 : decode cX11_peopleBy 18 = .ok (.iload 4, 2) := by decide +kernel
theorem dX11_peopleBy_20 : decode cX11_peopleBy 20 = .ok (.iconst 0, 1) := by decide +kernel
theorem dX11_peopleBy_21 : decode cX11_peopleBy 21 = .ok (.bipush 6, 2) := by decide +kernel
theorem dX11_peopleBy_23 : decode cX11_peopleBy 23 = .ok (.invokestatic 78, 3) := by decide +kernel
theorem dX11_peopleBy_26 : decode cX11_peopleBy 26 = .ok (.ifCond .ne 6, 3) := by decide +kernel
theorem dX11_peopleBy_29 : decode cX11_peopleBy 29 = .ok (.bipush (-2), 2) := by decide +kernel
theorem dX11_peopleBy_31 : decode cX11_peopleBy 31 = .ok (.ireturn, 1) := by decide +kernel
theorem dX11_peopleBy_32 : decode cX11_peopleBy 32 = .ok (.aload_n 0, 1) := by decide +kernel
theorem dX11_peopleBy_33 : decode cX11_peopleBy 33 = .ok (.getfield 37, 3) := by decide +kernel
theorem dX11_peopleBy_36 : decode cX11_peopleBy 36 = .ok (.iload_n 1, 1) := by decide +kernel
theorem dX11_peopleBy_37 : decode cX11_peopleBy 37 = .ok (.iaload, 1) := by decide +kernel
theorem dX11_peopleBy_38 : decode cX11_peopleBy 38 = .ok (.iconst (-1), 1) := by decide +kernel
theorem dX11_peopleBy_39 : decode cX11_peopleBy 39 = .ok (.if_icmp .ne 6, 3) := by decide +kernel
theorem dX11_peopleBy_42 : decode cX11_peopleBy 42 = .ok (.bipush (-11), 2) := by decide +kernel
theorem dX11_peopleBy_44 : decode cX11_peopleBy 44 = .ok (.ireturn, 1) := by decide +kernel
theorem dX11_peopleBy_45 : decode cX11_peopleBy 45 = .ok (.aload_n 0, 1) := by decide +kernel
theorem dX11_peopleBy_46 : decode cX11_peopleBy 46 = .ok (.getfield 37, 3) := by decide +kernel
theorem dX11_peopleBy_49 : decode cX11_peopleBy 49 = .ok (.iload_n 1, 1) := by decide +kernel
theorem dX11_peopleBy_50 : decode cX11_peopleBy 50 = .ok (.iaload, 1) := by decide +kernel
theorem dX11_peopleBy_51 : decode cX11_peopleBy 51 = .ok (.iload_n 2, 1) := by decide +kernel
theorem dX11_peopleBy_52 : decode cX11_peopleBy 52 = .ok (.if_icmp .eq 6, 3) := by decide +kernel
theorem dX11_peopleBy_55 : decode cX11_peopleBy 55 = .ok (.bipush (-13), 2) := by decide +kernel
theorem dX11_peopleBy_57 : decode cX11_peopleBy 57 = .ok (.ireturn, 1) := by decide +kernel
theorem dX11_peopleBy_58 : decode cX11_peopleBy 58 = .ok (.iconst 0, 1) := by decide +kernel
theorem dX11_peopleBy_59 : decode cX11_peopleBy 59 = .ok (.istore 5, 2) := by decide +kernel
theorem dX11_peopleBy_61 : decode cX11_peopleBy 61 = .ok (.iconst 0, 1) := by decide +kernel
theorem dX11_peopleBy_62 : decode cX11_peopleBy 62 = .ok (.istore 6, 2) := by decide +kernel
theorem dX11_peopleBy_64 : decode cX11_peopleBy 64 = .ok (.iload 6, 2) := by decide +kernel
theorem dX11_peopleBy_66 : decode cX11_peopleBy 66 = .ok (.iload 4, 2) := by decide +kernel
theorem dX11_peopleBy_68 : decode cX11_peopleBy 68 = .ok (.if_icmp .ge 94, 3) := by decide +kernel
theorem dX11_peopleBy_71 : decode cX11_peopleBy 71 = .ok (.iload_n 3, 1) := by decide +kernel
theorem dX11_peopleBy_72 : decode cX11_peopleBy 72 = .ok (.iconst 3, 1) := by decide +kernel
theorem dX11_peopleBy_73 : decode cX11_peopleBy 73 = .ok (.iload 6, 2) := by decide +kernel
theorem dX11_peopleBy_75 : decode cX11_peopleBy 75 = .ok (.imul, 1) := by decide +kernel
theorem dX11_peopleBy_76 : decode cX11_peopleBy 76 = .ok (.iadd, 1) := by decide +kernel
theorem dX11_peopleBy_77 : decode cX11_peopleBy 77 = .ok (.istore 7, 2) := by decide +kernel
theorem dX11_peopleBy_79 : decode cX11_peopleBy 79 = .ok (.iload_n 3, 1) := by decide +kernel
theorem dX11_peopleBy_80 : decode cX11_peopleBy 80 = .ok (.ifCond .lt 22, 3) := by decide +kernel
theorem dX11_peopleBy_83 : decode cX11_peopleBy 83 = .ok (.iload 7, 2) := by decide +kernel
theorem dX11_peopleBy_85 : decode cX11_peopleBy 85 = .ok (.iload_n 3, 1) := by decide +kernel
theorem dX11_peopleBy_86 : decode cX11_peopleBy 86 = .ok (.if_icmp .lt 16, 3) := by decide +kernel
theorem dX11_peopleBy_89 : decode cX11_peopleBy 89 = .ok (.iload 7, 2) := by decide +kernel
theorem dX11_peopleBy_91 : decode cX11_peopleBy 91 = .ok (.aload_n 0, 1) := by decide +kernel
theorem dX11_peopleBy_92 : decode cX11_peopleBy 92 = .ok (.getfield 40, 3) := by decide +kernel
theorem dX11_peopleBy_95 : decode cX11_peopleBy 95 = .ok (.iload_n 1, 1) := by decide +kernel
theorem dX11_peopleBy_96 : decode cX11_peopleBy 96 = .ok (.iaload, 1) := by decide +kernel
theorem dX11_peopleBy_97 : decode cX11_peopleBy 97 = .ok (.iconst 3, 1) := by decide +kernel
theorem dX11_peopleBy_98 : decode cX11_peopleBy 98 = .ok (.isub, 1) := by decide +kernel
theorem dX11_peopleBy_99 : decode cX11_peopleBy 99 = .ok (.if_icmp .le 6, 3) := by decide +kernel
theorem dX11_peopleBy_102 : decode cX11_peopleBy 102 = .ok (.bipush (-12), 2) := by decide +kernel
theorem dX11_peopleBy_104 : decode cX11_peopleBy 104 = .ok (.ireturn, 1) := by decide +kernel
theorem dX11_peopleBy_105 : decode cX11_peopleBy 105 = .ok (.bipush 40, 2) := by decide +kernel
theorem dX11_peopleBy_107 : decode cX11_peopleBy 107 = .ok (.iload_n 1, 1) := by decide +kernel
theorem dX11_peopleBy_108 : decode cX11_peopleBy 108 = .ok (.imul, 1) := by decide +kernel
theorem dX11_peopleBy_109 : decode cX11_peopleBy 109 = .ok (.iload 7, 2) := by decide +kernel
theorem dX11_peopleBy_111 : decode cX11_peopleBy 111 = .ok (.iadd, 1) := by decide +kernel
theorem dX11_peopleBy_112 : decode cX11_peopleBy 112 = .ok (.istore 8, 2) := by decide +kernel
theorem dX11_peopleBy_114 : decode cX11_peopleBy 114 = .ok (.iload 5, 2) := by decide +kernel
theorem dX11_peopleBy_116 : decode cX11_peopleBy 116 = .ok (.aload_n 0, 1) := by decide +kernel
theorem dX11_peopleBy_117 : decode cX11_peopleBy 117 = .ok (.aload_n 0, 1) := by decide +kernel
theorem dX11_peopleBy_118 : decode cX11_peopleBy 118 = .ok (.getfield 43, 3) := by decide +kernel
theorem dX11_peopleBy_121 : decode cX11_peopleBy 121 = .ok (.iload 8, 2) := by decide +kernel
theorem dX11_peopleBy_123 : decode cX11_peopleBy 123 = .ok (.iaload, 1) := by decide +kernel
theorem dX11_peopleBy_124 : decode cX11_peopleBy 124 = .ok (.aload_n 0, 1) := by decide +kernel
theorem dX11_peopleBy_125 : decode cX11_peopleBy 125 = .ok (.getfield 43, 3) := by decide +kernel
theorem dX11_peopleBy_128 : decode cX11_peopleBy 128 = .ok (.iload 8, 2) := by decide +kernel
theorem dX11_peopleBy_130 : decode cX11_peopleBy 130 = .ok (.iconst 1, 1) := by decide +kernel
theorem dX11_peopleBy_131 : decode cX11_peopleBy 131 = .ok (.iadd, 1) := by decide +kernel
theorem dX11_peopleBy_132 : decode cX11_peopleBy 132 = .ok (.iaload, 1) := by decide +kernel
theorem dX11_peopleBy_133 : decode cX11_peopleBy 133 = .ok (.aload_n 0, 1) := by decide +kernel
theorem dX11_peopleBy_134 : decode cX11_peopleBy 134 = .ok (.getfield 43, 3) := by decide +kernel
theorem dX11_peopleBy_137 : decode cX11_peopleBy 137 = .ok (.iload 8, 2) := by decide +kernel
theorem dX11_peopleBy_139 : decode cX11_peopleBy 139 = .ok (.iconst 2, 1) := by decide +kernel
theorem dX11_peopleBy_140 : decode cX11_peopleBy 140 = .ok (.iadd, 1) := by decide +kernel
theorem dX11_peopleBy_141 : decode cX11_peopleBy 141 = .ok (.iaload, 1) := by decide +kernel
theorem dX11_peopleBy_142 : decode cX11_peopleBy 142 = .ok (.invokevirtual 270, 3) := by decide +kernel
theorem dX11_peopleBy_145 : decode cX11_peopleBy 145 = .ok (.ifCond .lt 7, 3) := by decide +kernel
theorem dX11_peopleBy_148 : decode cX11_peopleBy 148 = .ok (.iconst 1, 1) := by decide +kernel
theorem dX11_peopleBy_149 : decode cX11_peopleBy 149 = .ok (.goto 4, 3) := by decide +kernel
theorem dX11_peopleBy_152 : decode cX11_peopleBy 152 = .ok (.iconst 0, 1) := by decide +kernel
theorem dX11_peopleBy_153 : decode cX11_peopleBy 153 = .ok (.iadd, 1) := by decide +kernel
theorem dX11_peopleBy_154 : decode cX11_peopleBy 154 = .ok (.istore 5, 2) := by decide +kernel
theorem dX11_peopleBy_156 : decode cX11_peopleBy 156 = .ok (.iinc 6 1, 3) := by decide +kernel
theorem dX11_peopleBy_159 : decode cX11_peopleBy 159 = .ok (.goto (-95), 3) := by decide +kernel
theorem dX11_peopleBy_162 : decode cX11_peopleBy 162 = .ok (.iload 5, 2) := by decide +kernel
theorem dX11_peopleBy_164 : decode cX11_peopleBy 164 = .ok (.ireturn, 1) := by decide +kernel
set_option maxHeartbeats 4000000 in
set_option maxRecDepth 100000 in
theorem c_X11_peopleBy (d : Nat) (TX : gTX) (P B s : gS) (hR0 : RM TX P B s) (t q i m : Int32) : gMt SM yX11_peopleBy cX11_peopleBy 9 (some .int) (d + 4) (fun ad => [.ref (ad 0), .int t, .int q, .int i, .int m]) s (gQi SM (fun r s' => RM TX (s_ppP P B t q i m) B s' ∧ r = s_ppR P B t q i m)) := by
  have hR1 := hR0
  obtain ⟨nT, n, l, hR⟩ := hR1
  have hI := hR.1
  have hn6 : n ≤ 6 := hI.2.1.2.1
  have hl6 : l < 6 := mI_l6 hI
  have hxn : x_n P = n := x_nOf hI.2.1.1 hn6
  have hbI := hR.2.2
  have hnT6 : nT ≤ 6 := hI.2.1.2.2.2.2.1
  obtain ⟨tn0, htn0, etn0⟩ := hbI.2.1
  refine gMt_of SM_ok (by decide +kernel) (fun ad => [some (.ref (ad 0)), some (.int t), some (.int q), some (.int i), some (.int m), none, none, none, none]) (fun _ => rfl) (fun _ => rfl) (fun _ => Nat.le_of_ble_eq_true rfl) (fun E C0 => ?_)
  have C : gCx SM E RX11 cX11_peopleBy 9 (some .int) (d + 4) := C0
  have r : RM TX P B s := hR0
  refine G_iload_n (i := 1) C 1 dX11_peopleBy_0 rfl rfl rfl ?_
  refine G_iconst (v := 0) C 2 dX11_peopleBy_1 rfl rfl ?_
  refine G_iconst (v := 3) C 3 dX11_peopleBy_2 rfl rfl ?_
  refine G_calli 6 (G_runS C Kc_X11_in KS_X11_78 (by omega) (c_X11_in 0 t 0 3 s) rfl rfl (Nat.le_of_ble_eq_true rfl) rfl dX11_peopleBy_3) rfl (fun x3 s3 h3 => ?_)
  obtain ⟨es3, h3⟩ := h3
  have es3 := es3.symm
  subst es3
  refine G_if_eq C 29 9 dX11_peopleBy_6 rfl rfl (fun c6 => ?_) (fun c6 => ?_)
  ·
    have k6 := h3.symm.trans c6
    refine G_bipush (v := (-2)) C 31 dX11_peopleBy_29 rfl rfl ?_
    exact G_iret C dX11_peopleBy_31 (⟨by unfold s_ppP; rw [if_neg (by unfold s_ppE; rw [if_pos k6]; decide)]; exact ⟨nT, n, l, hR⟩, by unfold s_ppR s_ppE; rw [if_pos k6]; rfl⟩)
  ·
    have k6 := g_neT h3 c6
    obtain ⟨ut, hut, eut⟩ := x_inR (b := 3) k6 rfl (by decide)
    have cut : t.toNatClampNeg = ut := by rw [eut, nI_clamp (by omega)]
    refine G_iload_n (i := 2) C 10 dX11_peopleBy_9 rfl rfl rfl ?_
    refine G_iconst (v := 0) C 11 dX11_peopleBy_10 rfl rfl ?_
    refine G_iconst (v := 2) C 12 dX11_peopleBy_11 rfl rfl ?_
    refine G_calli 15 (G_runS C Kc_X11_in KS_X11_78 (by omega) (c_X11_in 0 q 0 2 s) rfl rfl (Nat.le_of_ble_eq_true rfl) rfl dX11_peopleBy_12) rfl (fun x12 s12 h12 => ?_)
    obtain ⟨es12, h12⟩ := h12
    have es12 := es12.symm
    subst es12
    refine G_if_eq C 29 18 dX11_peopleBy_15 rfl rfl (fun c15 => ?_) (fun c15 => ?_)
    ·
      have k15 := h12.symm.trans c15
      refine G_bipush (v := (-2)) C 31 dX11_peopleBy_29 rfl rfl ?_
      exact G_iret C dX11_peopleBy_31 (⟨by unfold s_ppP; rw [if_neg (by unfold s_ppE; rw [if_neg k6, if_pos k15]; decide)]; exact ⟨nT, n, l, hR⟩, by unfold s_ppR s_ppE; rw [if_neg k6, if_pos k15]; rfl⟩)
    ·
      have k15 := g_neT h12 c15
      refine G_iload C 20 dX11_peopleBy_18 rfl rfl ?_
      refine G_iconst (v := 0) C 21 dX11_peopleBy_20 rfl rfl ?_
      refine G_bipush (v := 6) C 23 dX11_peopleBy_21 rfl rfl ?_
      refine G_calli 26 (G_runS C Kc_X11_in KS_X11_78 (by omega) (c_X11_in 0 m 0 6 s) rfl rfl (Nat.le_of_ble_eq_true rfl) rfl dX11_peopleBy_23) rfl (fun x23 s23 h23 => ?_)
      obtain ⟨es23, h23⟩ := h23
      have es23 := es23.symm
      subst es23
      refine G_if_ne C 32 29 dX11_peopleBy_26 rfl rfl (fun c26 => ?_) (fun c26 => ?_)
      ·
        have k26 := g_neT h23 c26
        obtain ⟨um, hum, eum⟩ := x_inR (b := 6) k26 rfl (by decide)
        have cum : m.toNatClampNeg = um := by rw [eum, nI_clamp (by omega)]
        refine G_aload_n (i := 0) C 33 dX11_peopleBy_32 rfl rfl rfl ?_
        refine X11_37g C 36 dX11_peopleBy_33 rfl ?_
        refine G_iload_n (i := 1) C 37 dX11_peopleBy_36 rfl rfl rfl ?_
        refine G_iald (n := 4) C 38 (by decide) (eMk (by decide) _ _ _) (ut) eut (by omega) (by decide) dX11_peopleBy_37 rfl (fun x37 ex37 => ?_)
        have Sx37 : x37 = B 2 ut := ex37.trans (mB_so hR.2.1 (by omega))
        refine G_iconst (v := (-1)) C 39 dX11_peopleBy_38 rfl rfl ?_
        refine G_icmp_ne C 45 42 dX11_peopleBy_39 rfl rfl (fun c39 => ?_) (fun c39 => ?_)
        ·
          obtain ⟨so, z, hso, hz, eso, ez⟩ := (hbI.2.2.2.2.1 ut (by omega)).resolve_left (fun w => c39 (Sx37.trans w.1))
          refine G_aload_n (i := 0) C 46 dX11_peopleBy_45 rfl rfl rfl ?_
          refine X11_37g C 49 dX11_peopleBy_46 rfl ?_
          refine G_iload_n (i := 1) C 50 dX11_peopleBy_49 rfl rfl rfl ?_
          refine G_iald (n := 4) C 51 (by decide) (eMk (by decide) _ _ _) (ut) eut (by omega) (by decide) dX11_peopleBy_50 rfl (fun x50 ex50 => ?_)
          have Sx50 : x50 = B 2 ut := ex50.trans (mB_so hR.2.1 (by omega))
          refine G_iload_n (i := 2) C 52 dX11_peopleBy_51 rfl rfl rfl ?_
          refine G_icmp_eq C 58 55 dX11_peopleBy_52 rfl rfl (fun c52 => ?_) (fun c52 => ?_)
          ·
            refine G_iconst (v := 0) C 59 dX11_peopleBy_58 rfl rfl ?_
            refine G_istore (L' := [some (.ref (e_ad E 0)), some (.int t), some (.int q), some (.int i), some (.int m), some (.int 0), none, none, none]) C 61 dX11_peopleBy_59 rfl (Nat.le_of_ble_eq_true rfl) rfl rfl ?_
            refine G_iconst (v := 0) C 62 dX11_peopleBy_61 rfl rfl ?_
            refine G_istore (L' := [some (.ref (e_ad E 0)), some (.int t), some (.int q), some (.int i), some (.int m), some (.int 0), some (.int 0), none, none]) C 64 dX11_peopleBy_62 rfl (Nat.le_of_ble_eq_true rfl) rfl rfl ?_
            have L64 : ∀ (f64 : Nat) (k : Nat) (Pk : gS) (ca y : Int32) (sl64 : gS) (Ey : y = nI k) (hk : k ≤ um) (hs : k = 0 ∨ ∃ a, i = nI a ∧ a + 3 * k ≤ z) (hx : x_ppl (B (4 + ut)) (B 3 ut) um P i 0 = x_ppl (B (4 + ut)) (B 3 ut) (um - k) Pk (i + nI (3 * k)) ca) (rl64 : RM TX Pk B sl64), um < k + f64 → GW SM E (gFin SM E (gQi SM (fun r s' => RM TX (s_ppP P B t q i m) B s' ∧ r = s_ppR P B t q i m))) 64 [some (.ref (e_ad E 0)), some (.int t), some (.int q), some (.int i), some (.int m), some (.int ca), some (.int y), none, none] [] sl64 := by
              intro f64
              induction f64 with
              | zero =>
                intro k Pk ca y sl64 Ey hk hs hx rl64 hf64
                exact absurd hf64 (by omega)
              | succ f64 ih64 =>
                intro k Pk ca y sl64 Ey hk hs hx rl64 hf64
                refine G_iload C 66 dX11_peopleBy_64 rfl rfl ?_
                refine G_iload C 68 dX11_peopleBy_66 rfl rfl ?_
                refine G_icmp_ge C 162 71 dX11_peopleBy_68 rfl rfl (fun c68 => ?_) (fun c68 => ?_)
                ·
                  have n68 : ¬ k < um := fun h => c68 ((g_ltN (a := k) (b := um) (hx := Ey) (hy := eum) (by omega) (by omega)).mpr h)
                  refine G_iload C 164 dX11_peopleBy_162 rfl rfl ?_
                  have he : s_ppE B t q m = 0 := by unfold s_ppE; rw [if_neg k6, if_neg k15, if_neg k26, cut, if_neg (fun w => c39 (Sx37.trans w)), if_pos (Sx50.symm.trans c52)]
                  have hx2 : x_ppl (B (4 + ut)) (B 3 ut) um P i 0 = (Pk, ca) := by rw [hx, show um - k = 0 by omega]; rfl
                  exact G_iret C dX11_peopleBy_164 (⟨by unfold s_ppP; rw [if_pos he, cut, cum, hx2]; exact rl64, by unfold s_ppR; rw [if_pos he, cut, cum, hx2]⟩)
                ·
                  have n68 : k < um := (g_ltN (a := k) (b := um) (hx := Ey) (hy := eum) (by omega) (by omega)).mp c68
                  have r2 := rl64
                  obtain ⟨nT1, n1, l1, hr1⟩ := r2
                  refine G_iload_n (i := 3) C 72 dX11_peopleBy_71 rfl rfl rfl ?_
                  refine G_iconst (v := 3) C 73 dX11_peopleBy_72 rfl rfl ?_
                  refine G_iload C 75 dX11_peopleBy_73 rfl rfl ?_
                  refine G_imul C 76 dX11_peopleBy_75 rfl (fun x75 ex75 => ?_)
                  have Nx75 : x75 = nI (3 * k) := g_mulN ex75 rfl Ey
                  refine G_iadd C 77 dX11_peopleBy_76 rfl (fun x76 ex76 => ?_)
                  refine G_istore (L' := [some (.ref (e_ad E 0)), some (.int t), some (.int q), some (.int i), some (.int m), some (.int ca), some (.int y), some (.int x76), none]) C 79 dX11_peopleBy_77 rfl (Nat.le_of_ble_eq_true rfl) rfl rfl ?_
                  refine G_iload_n (i := 3) C 80 dX11_peopleBy_79 rfl rfl rfl ?_
                  refine G_if_lt C 102 83 dX11_peopleBy_80 rfl rfl (fun c80 => ?_) (fun c80 => ?_)
                  ·
                    refine G_bipush (v := (-12)) C 104 dX11_peopleBy_102 rfl rfl ?_
                    have he : s_ppE B t q m = 0 := by unfold s_ppE; rw [if_neg k6, if_neg k15, if_neg k26, cut, if_neg (fun w => c39 (Sx37.trans w)), if_pos (Sx50.symm.trans c52)]
                    have hhol : x_hol (B 3 ut) (i + nI (3 * k)) 3 = 0 := by
                      rcases hs with h0 | ⟨a, ea, hak⟩
                      · subst h0
                        unfold x_hol
                        rw [if_pos (by rw [show i + nI (3 * 0) = i from Int32.add_zero i]; exact c80)]
                      · exfalso
                        rw [ea] at c80
                        exact nI_pos (by omega) c80
                    have hx2 : x_ppl (B (4 + ut)) (B 3 ut) um P i 0 = (Pk, -12) := by rw [hx, show um - k = (um - (k + 1)) + 1 by omega, x_ppl, if_pos hhol]
                    exact G_iret C dX11_peopleBy_104 (⟨by unfold s_ppP; rw [if_pos he, cut, cum, hx2]; exact rl64, by unfold s_ppR; rw [if_pos he, cut, cum, hx2]⟩)
                  ·
                    refine G_iload C 85 dX11_peopleBy_83 rfl rfl ?_
                    refine G_iload_n (i := 3) C 86 dX11_peopleBy_85 rfl rfl rfl ?_
                    refine G_icmp_lt C 102 89 dX11_peopleBy_86 rfl rfl (fun c86 => ?_) (fun c86 => ?_)
                    ·
                      exfalso
                      rw [ex76, Nx75] at c86
                      rcases hs with h0 | ⟨a, ea, hak⟩
                      · subst h0
                        rw [show i + nI (3 * 0) = i from Int32.add_zero i] at c86
                        exact Int32.lt_irrefl c86
                      · rw [ea, nI_add] at c86
                        have := (nI_ltI (by omega) (by omega)).mp c86
                        omega
                    ·
                      refine G_iload C 91 dX11_peopleBy_89 rfl rfl ?_
                      refine G_aload_n (i := 0) C 92 dX11_peopleBy_91 rfl rfl rfl ?_
                      refine X11_40g C 95 dX11_peopleBy_92 rfl ?_
                      refine G_iload_n (i := 1) C 96 dX11_peopleBy_95 rfl rfl rfl ?_
                      refine G_iald (n := 4) C 97 (by decide) (eMk (by decide) _ _ _) (ut) eut (by omega) (by decide) dX11_peopleBy_96 rfl (fun x96 ex96 => ?_)
                      have Sx96 : x96 = B 3 ut := ex96.trans (mB_sz hr1.2.1 (by omega))
                      refine G_iconst (v := 3) C 98 dX11_peopleBy_97 rfl rfl ?_
                      refine G_isub C 99 dX11_peopleBy_98 rfl (fun x98 ex98 => ?_)
                      refine G_icmp_le C 105 102 dX11_peopleBy_99 rfl rfl (fun c99 => ?_) (fun c99 => ?_)
                      ·
                        have hN : ∃ a, i = nI a ∧ a + 3 * (k + 1) ≤ z := by
                          have c99b := c99
                          rw [ex98, Sx96, ez, ex76, Nx75] at c99b
                          have e3 := i_subZ (z := z) (b := 3) (by omega) (by omega)
                          rcases hs with h0 | ⟨a, ea, hak⟩
                          · subst h0
                            obtain ⟨a, ha, ea⟩ := nI_of c80
                            refine ⟨a, ea, ?_⟩
                            rw [ea, nI_add] at c99b
                            have h9 : ¬ (nI z - nI 3).toInt < (nI (a + 3 * 0)).toInt := fun q => c99b (Int32.lt_iff_toInt_lt.mpr q)
                            rw [e3, nI_toInt (by omega)] at h9
                            omega
                          · refine ⟨a, ea, ?_⟩
                            rw [ea, nI_add] at c99b
                            have h9 : ¬ (nI z - nI 3).toInt < (nI (a + 3 * k)).toInt := fun q => c99b (Int32.lt_iff_toInt_lt.mpr q)
                            rw [e3, nI_toInt (by omega)] at h9
                            omega
                        obtain ⟨a, ea, hak⟩ := hN
                        have ep : x76 = nI (a + 3 * k) := by rw [ex76, Nx75, ea, nI_add]
                        have epl : i + nI (3 * k) = nI (a + 3 * k) := by rw [ea, nI_add]
                        have hhol : ¬ x_hol (B 3 ut) (i + nI (3 * k)) 3 = 0 := by
                          rw [epl, ez]
                          intro w
                          rcases (hol_i (by omega) (by decide) (nI_pos (by omega))).mp w with q | q
                          · have := (nI_ltI (by omega) (by omega)).mp q
                            omega
                          · rw [pk_sub (by omega), show (3 : Int32) = nI 3 from rfl] at q
                            have := (nI_ltI (by omega) (by omega)).mp q
                            omega
                        refine G_bipush (v := 40) C 107 dX11_peopleBy_105 rfl rfl ?_
                        refine G_iload_n (i := 1) C 108 dX11_peopleBy_107 rfl rfl rfl ?_
                        refine G_imul C 109 dX11_peopleBy_108 rfl (fun x108 ex108 => ?_)
                        have Nx108 : x108 = nI (40 * ut) := g_mulN ex108 rfl eut
                        refine G_iload C 111 dX11_peopleBy_109 rfl rfl ?_
                        refine G_iadd C 112 dX11_peopleBy_111 rfl (fun x111 ex111 => ?_)
                        have Nx111 : x111 = nI ((40 * ut) + (a + 3 * k)) := g_addN ex111 Nx108 ep
                        refine G_istore (L' := [some (.ref (e_ad E 0)), some (.int t), some (.int q), some (.int i), some (.int m), some (.int ca), some (.int y), some (.int x76), some (.int x111)]) C 114 dX11_peopleBy_112 rfl (Nat.le_of_ble_eq_true rfl) rfl rfl ?_
                        refine G_iload C 116 dX11_peopleBy_114 rfl rfl ?_
                        refine G_aload_n (i := 0) C 117 dX11_peopleBy_116 rfl rfl rfl ?_
                        refine G_aload_n (i := 0) C 118 dX11_peopleBy_117 rfl rfl rfl ?_
                        refine X11_43g C 121 dX11_peopleBy_118 rfl ?_
                        refine G_iload C 123 dX11_peopleBy_121 rfl rfl ?_
                        refine G_iald (n := 160) C 124 (by decide) (eMk (by decide) _ _ _) (((40 * ut) + (a + 3 * k))) Nx111 (by omega) (by decide) dX11_peopleBy_123 rfl (fun x123 ex123 => ?_)
                        have Sx123 : x123 = B (4 + ut) (a + 3 * k) := ex123.trans (mB_nu hr1.2.1 (by omega) (j := (a + 3 * k)) (by omega))
                        refine G_aload_n (i := 0) C 125 dX11_peopleBy_124 rfl rfl rfl ?_
                        refine X11_43g C 128 dX11_peopleBy_125 rfl ?_
                        refine G_iload C 130 dX11_peopleBy_128 rfl rfl ?_
                        refine G_iconst (v := 1) C 131 dX11_peopleBy_130 rfl rfl ?_
                        refine G_iadd C 132 dX11_peopleBy_131 rfl (fun x131 ex131 => ?_)
                        have Nx131 : x131 = nI (((40 * ut) + (a + 3 * k)) + 1) := g_addN ex131 Nx111 rfl
                        refine G_iald (n := 160) C 133 (by decide) (eMk (by decide) _ _ _) ((((40 * ut) + (a + 3 * k)) + 1)) Nx131 (by omega) (by decide) dX11_peopleBy_132 rfl (fun x132 ex132 => ?_)
                        have Sx132 : x132 = B (4 + ut) (a + 3 * k + 1) := ex132.trans (mB_nu hr1.2.1 (by omega) (j := (a + 3 * k + 1)) (by omega))
                        refine G_aload_n (i := 0) C 134 dX11_peopleBy_133 rfl rfl rfl ?_
                        refine X11_43g C 137 dX11_peopleBy_134 rfl ?_
                        refine G_iload C 139 dX11_peopleBy_137 rfl rfl ?_
                        refine G_iconst (v := 2) C 140 dX11_peopleBy_139 rfl rfl ?_
                        refine G_iadd C 141 dX11_peopleBy_140 rfl (fun x140 ex140 => ?_)
                        have Nx140 : x140 = nI (((40 * ut) + (a + 3 * k)) + 2) := g_addN ex140 Nx111 rfl
                        refine G_iald (n := 160) C 142 (by decide) (eMk (by decide) _ _ _) ((((40 * ut) + (a + 3 * k)) + 2)) Nx140 (by omega) (by decide) dX11_peopleBy_141 rfl (fun x141 ex141 => ?_)
                        have Sx141 : x141 = B (4 + ut) (a + 3 * k + 2) := ex141.trans (mB_nu hr1.2.1 (by omega) (j := (a + 3 * k + 2)) (by omega))
                        refine G_calli 145 (G_runV C Kc_X11_citizen KV_X11_270 (by omega) (by decide) (eM _ _ _) rfl (c_X11_citizen 0 TX Pk B sl64 rl64 x123 x132 x141) rfl rfl rfl (Nat.le_of_ble_eq_true rfl) rfl dX11_peopleBy_142) rfl (fun x142 s142 h142 => ?_)
                        have r_1 : RM TX (s_ctP Pk x123 x132 x141) B s142 := h142.1
                        refine G_if_lt C 152 148 dX11_peopleBy_145 rfl rfl (fun c145 => ?_) (fun c145 => ?_)
                        ·
                          refine G_iconst (v := 0) C 153 dX11_peopleBy_152 rfl rfl ?_
                          refine G_iadd C 154 dX11_peopleBy_153 rfl (fun x153 ex153 => ?_)
                          refine G_istore (L' := [some (.ref (e_ad E 0)), some (.int t), some (.int q), some (.int i), some (.int m), some (.int x153), some (.int y), some (.int x76), some (.int x111)]) C 156 dX11_peopleBy_154 rfl (Nat.le_of_ble_eq_true rfl) rfl rfl ?_
                          refine G_iinc (w := 1) C 159 dX11_peopleBy_156 rfl rfl rfl rfl (fun x156 ex156 => ?_)
                          have Nx156 : x156 = nI (k + 1) := g_addN ex156 Ey rfl
                          show GW SM E _ 159 [some (.ref (e_ad E 0)), some (.int t), some (.int q), some (.int i), some (.int m), some (.int x153), some (.int x156), some (.int x76), some (.int x111)] [] s142
                          refine G_goto C 64 dX11_peopleBy_159 rfl ?_
                          refine G_drop (L' := [some (.ref (e_ad E 0)), some (.int t), some (.int q), some (.int i), some (.int m), some (.int x153), some (.int x156), none, none]) ⟨rfl, rfl, rfl, rfl, rfl, rfl, rfl, trivial⟩ ?_
                          exact ih64 (k + 1) (s_ctP Pk x123 x132 x141) x153 x156 s142 (g_cn (a := (k + 1)) Nx156 (by first | rfl | omega | (simp only [List.length_cons, List.length_drop]; done) | (simp only [List.length_cons, List.length_drop]; omega))) (by omega) (Or.inr ⟨a, ea, hak⟩) (by rw [hx, show um - k = (um - (k + 1)) + 1 by omega, x_ppl, if_neg hhol, epl, nI_clamp (by omega), ← Sx123, ← Sx132, ← Sx141, ← h142.2, if_pos c145, ← epl, show i + nI (3 * k) + 3 = i + nI (3 * (k + 1)) by rw [Int32.add_assoc, show (3 : Int32) = nI 3 from rfl, nI_add, show 3 * k + 3 = 3 * (k + 1) by omega], ex153, Int32.add_zero]) (r_1) (by omega)
                        ·
                          refine G_iconst (v := 1) C 149 dX11_peopleBy_148 rfl rfl ?_
                          refine G_goto C 153 dX11_peopleBy_149 rfl ?_
                          refine G_iadd C 154 dX11_peopleBy_153 rfl (fun x153 ex153 => ?_)
                          refine G_istore (L' := [some (.ref (e_ad E 0)), some (.int t), some (.int q), some (.int i), some (.int m), some (.int x153), some (.int y), some (.int x76), some (.int x111)]) C 156 dX11_peopleBy_154 rfl (Nat.le_of_ble_eq_true rfl) rfl rfl ?_
                          refine G_iinc (w := 1) C 159 dX11_peopleBy_156 rfl rfl rfl rfl (fun x156 ex156 => ?_)
                          have Nx156 : x156 = nI (k + 1) := g_addN ex156 Ey rfl
                          show GW SM E _ 159 [some (.ref (e_ad E 0)), some (.int t), some (.int q), some (.int i), some (.int m), some (.int x153), some (.int x156), some (.int x76), some (.int x111)] [] s142
                          refine G_goto C 64 dX11_peopleBy_159 rfl ?_
                          refine G_drop (L' := [some (.ref (e_ad E 0)), some (.int t), some (.int q), some (.int i), some (.int m), some (.int x153), some (.int x156), none, none]) ⟨rfl, rfl, rfl, rfl, rfl, rfl, rfl, trivial⟩ ?_
                          exact ih64 (k + 1) (s_ctP Pk x123 x132 x141) x153 x156 s142 (g_cn (a := (k + 1)) Nx156 (by first | rfl | omega | (simp only [List.length_cons, List.length_drop]; done) | (simp only [List.length_cons, List.length_drop]; omega))) (by omega) (Or.inr ⟨a, ea, hak⟩) (by rw [hx, show um - k = (um - (k + 1)) + 1 by omega, x_ppl, if_neg hhol, epl, nI_clamp (by omega), ← Sx123, ← Sx132, ← Sx141, ← h142.2, if_neg c145, ← epl, show i + nI (3 * k) + 3 = i + nI (3 * (k + 1)) by rw [Int32.add_assoc, show (3 : Int32) = nI 3 from rfl, nI_add, show 3 * k + 3 = 3 * (k + 1) by omega], ex153]) (r_1) (by omega)
                      ·
                        refine G_bipush (v := (-12)) C 104 dX11_peopleBy_102 rfl rfl ?_
                        have he : s_ppE B t q m = 0 := by unfold s_ppE; rw [if_neg k6, if_neg k15, if_neg k26, cut, if_neg (fun w => c39 (Sx37.trans w)), if_pos (Sx50.symm.trans c52)]
                        have hhol : x_hol (B 3 ut) (i + nI (3 * k)) 3 = 0 := by
                          have c99b := c99
                          rw [ex98, Sx96, ex76, Nx75] at c99b
                          have hp0 : ¬ i + nI (3 * k) < 0 := by
                            rcases hs with h0 | ⟨a, ea, hak⟩
                            · subst h0
                              rw [show i + nI (3 * 0) = i from Int32.add_zero i]
                              exact c80
                            · rw [ea, nI_add]
                              exact nI_pos (by omega)
                          unfold x_hol
                          rw [if_neg hp0, if_neg (by decide), if_pos c99b]
                        have hx2 : x_ppl (B (4 + ut)) (B 3 ut) um P i 0 = (Pk, -12) := by rw [hx, show um - k = (um - (k + 1)) + 1 by omega, x_ppl, if_pos hhol]
                        exact G_iret C dX11_peopleBy_104 (⟨by unfold s_ppP; rw [if_pos he, cut, cum, hx2]; exact rl64, by unfold s_ppR; rw [if_pos he, cut, cum, hx2]⟩)
            exact L64 (um + 1) 0 P 0 0 s (g_cn (a := 0) rfl (by first | rfl | omega)) (by omega) (Or.inl rfl) (by rw [show i + nI (3 * 0) = i from Int32.add_zero i]; rfl) (r) (by omega)
          ·
            refine G_bipush (v := (-13)) C 57 dX11_peopleBy_55 rfl rfl ?_
            exact G_iret C dX11_peopleBy_57 (⟨by unfold s_ppP; rw [if_neg (by unfold s_ppE; rw [if_neg k6, if_neg k15, if_neg k26, cut, if_neg (fun w => c39 (Sx37.trans w)), if_neg (fun w => c52 (Sx50.trans w))]; decide)]; exact ⟨nT, n, l, hR⟩, by unfold s_ppR s_ppE; rw [if_neg k6, if_neg k15, if_neg k26, cut, if_neg (fun w => c39 (Sx37.trans w)), if_neg (fun w => c52 (Sx50.trans w))]; rfl⟩)
        ·
          refine G_bipush (v := (-11)) C 44 dX11_peopleBy_42 rfl rfl ?_
          exact G_iret C dX11_peopleBy_44 (⟨by unfold s_ppP; rw [if_neg (by unfold s_ppE; rw [if_neg k6, if_neg k15, if_neg k26, cut, if_pos (Sx37.symm.trans c39)]; decide)]; exact ⟨nT, n, l, hR⟩, by unfold s_ppR s_ppE; rw [if_neg k6, if_neg k15, if_neg k26, cut, if_pos (Sx37.symm.trans c39)]; rfl⟩)
      ·
        have k26 := h23.symm.trans c26
        refine G_bipush (v := (-2)) C 31 dX11_peopleBy_29 rfl rfl ?_
        exact G_iret C dX11_peopleBy_31 (⟨by unfold s_ppP; rw [if_neg (by unfold s_ppE; rw [if_neg k6, if_neg k15, if_pos k26]; decide)]; exact ⟨nT, n, l, hR⟩, by unfold s_ppR s_ppE; rw [if_neg k6, if_neg k15, if_pos k26]; rfl⟩)
theorem dX11_isUnder_0 : decode cX11_isUnder 0 = .ok (.iload_n 1, 1) := by decide +kernel
theorem dX11_isUnder_1 : decode cX11_isUnder 1 = .ok (.ifCond .eq 28, 3) := by decide +kernel
theorem dX11_isUnder_4 : decode cX11_isUnder 4 = .ok (.iload_n 0, 1) := by decide +kernel
theorem dX11_isUnder_5 : decode cX11_isUnder 5 = .ok (.iload_n 1, 1) := by decide +kernel
theorem dX11_isUnder_6 : decode cX11_isUnder 6 = .ok (.if_icmp .eq 23, 3) := by decide +kernel
theorem dX11_isUnder_9 : decode cX11_isUnder 9 = .ok (.iload_n 1, 1) := by decide +kernel
theorem dX11_isUnder_10 : decode cX11_isUnder 10 = .ok (.iconst 1, 1) := by decide +kernel
theorem dX11_isUnder_11 : decode cX11_isUnder 11 = .ok (.if_icmp .ne 8, 3) := by decide +kernel
theorem dX11_isUnder_14 : decode cX11_isUnder 14 = .ok (.iload_n 0, 1) := by decide +kernel
theorem dX11_isUnder_15 : decode cX11_isUnder 15 = .ok (.iconst 3, 1) := by decide +kernel
theorem dX11_isUnder_16 : decode cX11_isUnder 16 = .ok (.if_icmp .eq 13, 3) := by decide +kernel
theorem dX11_isUnder_19 : decode cX11_isUnder 19 = .ok (.iload_n 1, 1) := by decide +kernel
theorem dX11_isUnder_20 : decode cX11_isUnder 20 = .ok (.iconst 2, 1) := by decide +kernel
theorem dX11_isUnder_21 : decode cX11_isUnder 21 = .ok (.if_icmp .ne 12, 3) := by decide +kernel
theorem dX11_isUnder_24 : decode cX11_isUnder 24 = .ok (.iload_n 0, 1) := by decide +kernel
theorem dX11_isUnder_25 : decode cX11_isUnder 25 = .ok (.iconst 4, 1) := by decide +kernel
theorem dX11_isUnder_26 : decode cX11_isUnder 26 = .ok (.if_icmp .ne 7, 3) := by decide +kernel
theorem dX11_isUnder_29 : decode cX11_isUnder 29 = .ok (.iconst 1, 1) := by decide +kernel
theorem dX11_isUnder_30 : decode cX11_isUnder 30 = .ok (.goto 4, 3) := by decide +kernel
theorem dX11_isUnder_33 : decode cX11_isUnder 33 = .ok (.iconst 0, 1) := by decide +kernel
theorem dX11_isUnder_34 : decode cX11_isUnder 34 = .ok (.ireturn, 1) := by decide +kernel
set_option maxHeartbeats 4000000 in
set_option maxRecDepth 100000 in
theorem c_X11_isUnder (d : Nat) (kd v : Int32) (s : gS) : gMt SM yX11_isUnder cX11_isUnder 2 (some .boolean) (d + 1) (fun ad => [.int kd, .int v]) s (gQi SM (fun r s' => s' = s ∧ r = x_isOf kd v)) := by
  refine gMt_of SM_ok (by decide +kernel) (fun ad => [some (.int kd), some (.int v)]) (fun _ => rfl) (fun _ => rfl) (fun _ => Nat.le_of_ble_eq_true rfl) (fun E C0 => ?_)
  have C : gCx SM E RX11 cX11_isUnder 2 (some .boolean) (d + 1) := C0
  refine G_iload_n (i := 1) C 1 dX11_isUnder_0 rfl rfl rfl ?_
  refine G_if_eq C 29 4 dX11_isUnder_1 rfl rfl (fun c1 => ?_) (fun c1 => ?_)
  ·
    refine G_iconst (v := 1) C 30 dX11_isUnder_29 rfl rfl ?_
    refine G_goto C 34 dX11_isUnder_30 rfl ?_
    exact G_zret C rfl dX11_isUnder_34 (⟨rfl, by unfold x_isOf; simp only [eq_comm (a := v) (b := kd)]; simp_all⟩)
  ·
    refine G_iload_n (i := 0) C 5 dX11_isUnder_4 rfl rfl rfl ?_
    refine G_iload_n (i := 1) C 6 dX11_isUnder_5 rfl rfl rfl ?_
    refine G_icmp_eq C 29 9 dX11_isUnder_6 rfl rfl (fun c6 => ?_) (fun c6 => ?_)
    ·
      refine G_iconst (v := 1) C 30 dX11_isUnder_29 rfl rfl ?_
      refine G_goto C 34 dX11_isUnder_30 rfl ?_
      exact G_zret C rfl dX11_isUnder_34 (⟨rfl, by unfold x_isOf; simp only [eq_comm (a := v) (b := kd)]; simp_all⟩)
    ·
      refine G_iload_n (i := 1) C 10 dX11_isUnder_9 rfl rfl rfl ?_
      refine G_iconst (v := 1) C 11 dX11_isUnder_10 rfl rfl ?_
      refine G_icmp_ne C 19 14 dX11_isUnder_11 rfl rfl (fun c11 => ?_) (fun c11 => ?_)
      ·
        refine G_iload_n (i := 1) C 20 dX11_isUnder_19 rfl rfl rfl ?_
        refine G_iconst (v := 2) C 21 dX11_isUnder_20 rfl rfl ?_
        refine G_icmp_ne C 33 24 dX11_isUnder_21 rfl rfl (fun c21 => ?_) (fun c21 => ?_)
        ·
          refine G_iconst (v := 0) C 34 dX11_isUnder_33 rfl rfl ?_
          exact G_zret C rfl dX11_isUnder_34 (⟨rfl, by unfold x_isOf; simp only [eq_comm (a := v) (b := kd)]; simp_all⟩)
        ·
          refine G_iload_n (i := 0) C 25 dX11_isUnder_24 rfl rfl rfl ?_
          refine G_iconst (v := 4) C 26 dX11_isUnder_25 rfl rfl ?_
          refine G_icmp_ne C 33 29 dX11_isUnder_26 rfl rfl (fun c26 => ?_) (fun c26 => ?_)
          ·
            refine G_iconst (v := 0) C 34 dX11_isUnder_33 rfl rfl ?_
            exact G_zret C rfl dX11_isUnder_34 (⟨rfl, by unfold x_isOf; simp only [eq_comm (a := v) (b := kd)]; simp_all⟩)
          ·
            refine G_iconst (v := 1) C 30 dX11_isUnder_29 rfl rfl ?_
            refine G_goto C 34 dX11_isUnder_30 rfl ?_
            exact G_zret C rfl dX11_isUnder_34 (⟨rfl, by unfold x_isOf; simp only [eq_comm (a := v) (b := kd)]; simp_all⟩)
      ·
        refine G_iload_n (i := 0) C 15 dX11_isUnder_14 rfl rfl rfl ?_
        refine G_iconst (v := 3) C 16 dX11_isUnder_15 rfl rfl ?_
        refine G_icmp_eq C 29 19 dX11_isUnder_16 rfl rfl (fun c16 => ?_) (fun c16 => ?_)
        ·
          refine G_iconst (v := 1) C 30 dX11_isUnder_29 rfl rfl ?_
          refine G_goto C 34 dX11_isUnder_30 rfl ?_
          exact G_zret C rfl dX11_isUnder_34 (⟨rfl, by unfold x_isOf; simp only [eq_comm (a := v) (b := kd)]; simp_all⟩)
        ·
          refine G_iload_n (i := 1) C 20 dX11_isUnder_19 rfl rfl rfl ?_
          refine G_iconst (v := 2) C 21 dX11_isUnder_20 rfl rfl ?_
          refine G_icmp_ne C 33 24 dX11_isUnder_21 rfl rfl (fun c21 => ?_) (fun c21 => ?_)
          ·
            refine G_iconst (v := 0) C 34 dX11_isUnder_33 rfl rfl ?_
            exact G_zret C rfl dX11_isUnder_34 (⟨rfl, by unfold x_isOf; simp only [eq_comm (a := v) (b := kd)]; simp_all⟩)
          ·
            refine G_iload_n (i := 0) C 25 dX11_isUnder_24 rfl rfl rfl ?_
            refine G_iconst (v := 4) C 26 dX11_isUnder_25 rfl rfl ?_
            refine G_icmp_ne C 33 29 dX11_isUnder_26 rfl rfl (fun c26 => ?_) (fun c26 => ?_)
            ·
              refine G_iconst (v := 0) C 34 dX11_isUnder_33 rfl rfl ?_
              exact G_zret C rfl dX11_isUnder_34 (⟨rfl, by unfold x_isOf; simp only [eq_comm (a := v) (b := kd)]; simp_all⟩)
            ·
              refine G_iconst (v := 1) C 30 dX11_isUnder_29 rfl rfl ?_
              refine G_goto C 34 dX11_isUnder_30 rfl ?_
              exact G_zret C rfl dX11_isUnder_34 (⟨rfl, by unfold x_isOf; simp only [eq_comm (a := v) (b := kd)]; simp_all⟩)
theorem dX11_taken_0 : decode cX11_taken 0 = .ok (.iload_n 2, 1) := by decide +kernel
theorem dX11_taken_1 : decode cX11_taken 1 = .ok (.iconst 0, 1) := by decide +kernel
theorem dX11_taken_2 : decode cX11_taken 2 = .ok (.bipush 6, 2) := by decide +kernel
theorem dX11_taken_4 : decode cX11_taken 4 = .ok (.invokestatic 78, 3) := by decide +kernel
theorem dX11_taken_7 : decode cX11_taken 7 = .ok (.ifCond .ne 6, 3) := by decide +kernel
theorem dX11_taken_10 : decode cX11_taken 10 = .ok (.bipush (-2), 2) := by decide +kernel
theorem dX11_taken_12 : decode cX11_taken 12 = .ok (.ireturn, 1) := by decide +kernel
theorem dX11_taken_13 : decode cX11_taken 13 = .ok (.iload_n 1, 1) := by decide +kernel
theorem dX11_taken_14 : decode cX11_taken 14 = .ok (.iconst 0, 1) := by decide +kernel
theorem dX11_taken_15 : decode cX11_taken 15 = .ok (.bipush 11, 2) := by decide +kernel
theorem dX11_taken_17 : decode cX11_taken 17 = .ok (.invokestatic 78, 3) := by decide +kernel
theorem dX11_taken_20 : decode cX11_taken 20 = .ok (.ifCond .ne 6, 3) := by decide +kernel
theorem dX11_taken_23 : decode cX11_taken 23 = .ok (.bipush (-12), 2) := by decide +kernel
theorem dX11_taken_25 : decode cX11_taken 25 = .ok (.ireturn, 1) := by decide +kernel
theorem dX11_taken_26 : decode cX11_taken 26 = .ok (.iload_n 1, 1) := by decide +kernel
theorem dX11_taken_27 : decode cX11_taken 27 = .ok (.bipush 6, 2) := by decide +kernel
theorem dX11_taken_29 : decode cX11_taken 29 = .ok (.irem, 1) := by decide +kernel
theorem dX11_taken_30 : decode cX11_taken 30 = .ok (.aload_n 0, 1) := by decide +kernel
theorem dX11_taken_31 : decode cX11_taken 31 = .ok (.getfield 75, 3) := by decide +kernel
theorem dX11_taken_34 : decode cX11_taken 34 = .ok (.if_icmp .lt 6, 3) := by decide +kernel
theorem dX11_taken_37 : decode cX11_taken 37 = .ok (.bipush (-11), 2) := by decide +kernel
theorem dX11_taken_39 : decode cX11_taken 39 = .ok (.ireturn, 1) := by decide +kernel
theorem dX11_taken_40 : decode cX11_taken 40 = .ok (.iload_n 1, 1) := by decide +kernel
theorem dX11_taken_41 : decode cX11_taken 41 = .ok (.bipush 6, 2) := by decide +kernel
theorem dX11_taken_43 : decode cX11_taken 43 = .ok (.if_icmp .lt 28, 3) := by decide +kernel
theorem dX11_taken_46 : decode cX11_taken 46 = .ok (.iload_n 2, 1) := by decide +kernel
theorem dX11_taken_47 : decode cX11_taken 47 = .ok (.bipush 6, 2) := by decide +kernel
theorem dX11_taken_49 : decode cX11_taken 49 = .ok (.if_icmp .ne 19, 3) := by decide +kernel
theorem dX11_taken_52 : decode cX11_taken 52 = .ok (.aload_n 0, 1) := by decide +kernel
theorem dX11_taken_53 : decode cX11_taken 53 = .ok (.getfield 16, 3) := by decide +kernel
theorem dX11_taken_56 : decode cX11_taken 56 = .ok (.iconst 4, 1) := by decide +kernel
theorem dX11_taken_57 : decode cX11_taken 57 = .ok (.iload_n 1, 1) := by decide +kernel
theorem dX11_taken_58 : decode cX11_taken 58 = .ok (.bipush 6, 2) := by decide +kernel
theorem dX11_taken_60 : decode cX11_taken 60 = .ok (.isub, 1) := by decide +kernel
theorem dX11_taken_61 : decode cX11_taken 61 = .ok (.imul, 1) := by decide +kernel
theorem dX11_taken_62 : decode cX11_taken 62 = .ok (.iconst 3, 1) := by decide +kernel
theorem dX11_taken_63 : decode cX11_taken 63 = .ok (.iadd, 1) := by decide +kernel
theorem dX11_taken_64 : decode cX11_taken 64 = .ok (.iaload, 1) := by decide +kernel
theorem dX11_taken_65 : decode cX11_taken 65 = .ok (.goto 5, 3) := by decide +kernel
theorem dX11_taken_68 : decode cX11_taken 68 = .ok (.bipush (-13), 2) := by decide +kernel
theorem dX11_taken_70 : decode cX11_taken 70 = .ok (.ireturn, 1) := by decide +kernel
theorem dX11_taken_71 : decode cX11_taken 71 = .ok (.iload_n 2, 1) := by decide +kernel
theorem dX11_taken_72 : decode cX11_taken 72 = .ok (.bipush 6, 2) := by decide +kernel
theorem dX11_taken_74 : decode cX11_taken 74 = .ok (.if_icmp .ge 20, 3) := by decide +kernel
theorem dX11_taken_77 : decode cX11_taken 77 = .ok (.aload_n 0, 1) := by decide +kernel
theorem dX11_taken_78 : decode cX11_taken 78 = .ok (.getfield 7, 3) := by decide +kernel
theorem dX11_taken_81 : decode cX11_taken 81 = .ok (.iload_n 1, 1) := by decide +kernel
theorem dX11_taken_82 : decode cX11_taken 82 = .ok (.iaload, 1) := by decide +kernel
theorem dX11_taken_83 : decode cX11_taken 83 = .ok (.iload_n 2, 1) := by decide +kernel
theorem dX11_taken_84 : decode cX11_taken 84 = .ok (.invokestatic 273, 3) := by decide +kernel
theorem dX11_taken_87 : decode cX11_taken 87 = .ok (.ifCond .eq 7, 3) := by decide +kernel
theorem dX11_taken_90 : decode cX11_taken 90 = .ok (.iload_n 1, 1) := by decide +kernel
theorem dX11_taken_91 : decode cX11_taken 91 = .ok (.goto 5, 3) := by decide +kernel
theorem dX11_taken_94 : decode cX11_taken 94 = .ok (.bipush (-13), 2) := by decide +kernel
theorem dX11_taken_96 : decode cX11_taken 96 = .ok (.ireturn, 1) := by decide +kernel
set_option maxHeartbeats 4000000 in
set_option maxRecDepth 100000 in
theorem c_X11_taken (d : Nat) (TX : gTX) (P B s : gS) (hR0 : RM TX P B s) (v q : Int32) : gMt SM yX11_taken cX11_taken 3 (some .int) (d + 2) (fun ad => [.ref (ad 0), .int v, .int q]) s (gQi SM (fun r s' => RM TX P B s' ∧ r = s_taken P v q)) := by
  obtain ⟨nT, n, l, hR⟩ := hR0
  have hI := hR.1
  have hn6 : n ≤ 6 := hI.2.1.2.1
  have hl6 : l < 6 := mI_l6 hI
  have hxn : x_n P = n := x_nOf hI.2.1.1 hn6
  have hbI := hR.2.2
  have hnT6 : nT ≤ 6 := hI.2.1.2.2.2.2.1
  obtain ⟨tn0, htn0, etn0⟩ := hbI.2.1
  refine gMt_of SM_ok (by decide +kernel) (fun ad => [some (.ref (ad 0)), some (.int v), some (.int q)]) (fun _ => rfl) (fun _ => rfl) (fun _ => Nat.le_of_ble_eq_true rfl) (fun E C0 => ?_)
  have C : gCx SM E RX11 cX11_taken 3 (some .int) (d + 2) := C0
  have fn : Qn s s := Qn.rf
  have i : mI TX nT n l P s := hI
  refine G_iload_n (i := 2) C 1 dX11_taken_0 rfl rfl rfl ?_
  refine G_iconst (v := 0) C 2 dX11_taken_1 rfl rfl ?_
  refine G_bipush (v := 6) C 4 dX11_taken_2 rfl rfl ?_
  refine G_calli 7 (G_runS C Kc_X11_in KS_X11_78 (by omega) (c_X11_in 0 q 0 6 s) rfl rfl (Nat.le_of_ble_eq_true rfl) rfl dX11_taken_4) rfl (fun x4 s4 h4 => ?_)
  obtain ⟨es4, h4⟩ := h4
  have es4 := es4.symm
  subst es4
  refine G_if_ne C 13 10 dX11_taken_7 rfl rfl (fun c7 => ?_) (fun c7 => ?_)
  ·
    have k7 := g_neT h4 c7
    refine G_iload_n (i := 1) C 14 dX11_taken_13 rfl rfl rfl ?_
    refine G_iconst (v := 0) C 15 dX11_taken_14 rfl rfl ?_
    refine G_bipush (v := 11) C 17 dX11_taken_15 rfl rfl ?_
    refine G_calli 20 (G_runS C Kc_X11_in KS_X11_78 (by omega) (c_X11_in 0 v 0 11 s) rfl rfl (Nat.le_of_ble_eq_true rfl) rfl dX11_taken_17) rfl (fun x17 s17 h17 => ?_)
    obtain ⟨es17, h17⟩ := h17
    have es17 := es17.symm
    subst es17
    refine G_if_ne C 26 23 dX11_taken_20 rfl rfl (fun c20 => ?_) (fun c20 => ?_)
    ·
      have k20 := g_neT h17 c20
      obtain ⟨uv, huv, euv⟩ := x_inR (b := 11) k20 rfl (by decide)
      have cuv : v.toNatClampNeg = uv := by rw [euv, nI_clamp (by omega)]
      refine G_iload_n (i := 1) C 27 dX11_taken_26 rfl rfl rfl ?_
      refine G_bipush (v := 6) C 29 dX11_taken_27 rfl rfl ?_
      refine G_irem C 30 dX11_taken_29 rfl (by decide) (fun x29 ex29 => ?_)
      have Nx29 : x29 = nI (uv % 6) := by rw [ex29, euv, show (6 : Int32) = nI 6 from rfl, pk_rem (by omega) (by omega) (by omega)]
      refine G_aload_n (i := 0) C 31 dX11_taken_30 rfl rfl rfl ?_
      refine X11_75g C 34 dX11_taken_31 rfl (fun x31 ex31 => ?_)
      have Sx31 : x31 = nI n := ex31.trans (mI_n i)
      refine G_icmp_lt C 40 37 dX11_taken_34 rfl rfl (fun c34 => ?_) (fun c34 => ?_)
      ·
        have n34 : (uv % 6) < n := (g_ltN (a := (uv % 6)) (b := n) (hx := Nx29) (hy := Sx31) (by omega) (by omega)).mp c34
        refine G_iload_n (i := 1) C 41 dX11_taken_40 rfl rfl rfl ?_
        refine G_bipush (v := 6) C 43 dX11_taken_41 rfl rfl ?_
        refine G_icmp_lt C 71 46 dX11_taken_43 rfl rfl (fun c43 => ?_) (fun c43 => ?_)
        ·
          have n43 : uv < 6 := (g_ltN (a := uv) (b := 6) (hx := euv) (hy := rfl) (by omega) (by omega)).mp c43
          have h6 : uv < 6 := n43
          refine G_iload_n (i := 2) C 72 dX11_taken_71 rfl rfl rfl ?_
          refine G_bipush (v := 6) C 74 dX11_taken_72 rfl rfl ?_
          refine G_icmp_ge C 94 77 dX11_taken_74 rfl rfl (fun c74 => ?_) (fun c74 => ?_)
          ·
            refine G_bipush (v := (-13)) C 96 dX11_taken_94 rfl rfl ?_
            exact G_iret C dX11_taken_96 (⟨⟨nT, n, l, hR⟩, by
                have hp := (mI_p hI (p := uv) (by omega)).1
                obtain ⟨kd, hkd, ekd⟩ := hp
                have hq6 : q = 6 := by
                  obtain ⟨z, hz, ez⟩ := x_inR (b := 6) k7 rfl (by decide)
                  have : ¬ z < 6 := fun y => c74 (by rw [ez, show (6 : Int32) = nI 6 from rfl]; exact (nI_ltI (by omega) (by omega)).mpr y)
                  have e6 : z = 6 := by omega
                  rw [ez, e6]
                  rfl
                unfold s_taken; rw [if_neg k7, if_neg k20, if_pos c43, hxn, if_neg (by rw [euv]; exact fun z => (x_one_iff (by omega) (by omega)).mp z (by omega)), show v.toNatClampNeg = uv by rw [euv, nI_clamp (by omega)], ekd, hq6, if_pos (x_isOf6 kd hkd)]⟩)
          ·
            refine G_aload_n (i := 0) C 78 dX11_taken_77 rfl rfl rfl ?_
            refine X11_7g C 81 dX11_taken_78 rfl ?_
            refine G_iload_n (i := 1) C 82 dX11_taken_81 rfl rfl rfl ?_
            refine G_iald (n := 6) C 83 (by decide) (eMk (by decide) _ _ _) (uv) euv (by omega) (by decide) dX11_taken_82 rfl (fun x82 ex82 => ?_)
            have Sx82 : x82 = P 6 uv := ex82.trans (mI_6 i (by omega))
            obtain ⟨kdx82, hkdx82, ekdx82⟩ := (mI_p i (p := uv) (by omega)).1
            refine G_iload_n (i := 2) C 84 dX11_taken_83 rfl rfl rfl ?_
            refine G_calli 87 (G_runS C Kc_X11_isUnder KS_X11_273 (by omega) (c_X11_isUnder 0 x82 q s) rfl rfl (Nat.le_of_ble_eq_true rfl) rfl dX11_taken_84) rfl (fun x84 s84 h84 => ?_)
            obtain ⟨es84, h84⟩ := h84
            have es84 := es84.symm
            subst es84
            refine G_if_eq C 94 90 dX11_taken_87 rfl rfl (fun c87 => ?_) (fun c87 => ?_)
            ·
              have k87 := h84.symm.trans c87
              refine G_bipush (v := (-13)) C 96 dX11_taken_94 rfl rfl ?_
              exact G_iret C dX11_taken_96 (⟨⟨nT, n, l, hR⟩, by
                  have cuv : v.toNatClampNeg = uv := by rw [euv, nI_clamp (by omega)]
                  unfold s_taken; rw [if_neg k7, if_neg k20, if_pos c43, hxn, if_neg (by rw [euv]; exact fun z => (x_one_iff (by omega) (by omega)).mp z (by omega)), cuv, if_pos (by rw [← Sx82, ← h84]; exact c87)]⟩)
            ·
              have k87 := g_neT h84 c87
              refine G_iload_n (i := 1) C 91 dX11_taken_90 rfl rfl rfl ?_
              refine G_goto C 96 dX11_taken_91 rfl ?_
              exact G_iret C dX11_taken_96 (⟨⟨nT, n, l, hR⟩, by
                  have cuv : v.toNatClampNeg = uv := by rw [euv, nI_clamp (by omega)]
                  unfold s_taken; rw [if_neg k7, if_neg k20, if_pos c43, hxn, if_neg (by rw [euv]; exact fun z => (x_one_iff (by omega) (by omega)).mp z (by omega)), cuv, if_neg (by rw [← Sx82, ← h84]; exact c87)]⟩)
        ·
          have n43 : ¬ uv < 6 := fun h => c43 ((g_ltN (a := uv) (b := 6) (hx := euv) (hy := rfl) (by omega) (by omega)).mpr h)
          have h6 : ¬ uv < 6 := n43
          refine G_iload_n (i := 2) C 47 dX11_taken_46 rfl rfl rfl ?_
          refine G_bipush (v := 6) C 49 dX11_taken_47 rfl rfl ?_
          refine G_icmp_ne C 68 52 dX11_taken_49 rfl rfl (fun c49 => ?_) (fun c49 => ?_)
          ·
            refine G_bipush (v := (-13)) C 70 dX11_taken_68 rfl rfl ?_
            exact G_iret C dX11_taken_70 (⟨⟨nT, n, l, hR⟩, by unfold s_taken; rw [if_neg k7, if_neg k20, if_neg c43, hxn, if_neg (by rw [euv, show (6 : Int32) = nI 6 from rfl, pk_sub (by omega)]; exact fun z => (x_one_iff (by omega) (by omega)).mp z (by omega)), if_neg c49]⟩)
          ·
            refine G_aload_n (i := 0) C 53 dX11_taken_52 rfl rfl rfl ?_
            refine X11_16g C 56 dX11_taken_53 rfl ?_
            refine G_iconst (v := 4) C 57 dX11_taken_56 rfl rfl ?_
            refine G_iload_n (i := 1) C 58 dX11_taken_57 rfl rfl rfl ?_
            refine G_bipush (v := 6) C 60 dX11_taken_58 rfl rfl ?_
            refine G_isub C 61 dX11_taken_60 rfl (fun x60 ex60 => ?_)
            have Nx60 : x60 = nI (uv - 6) := g_subN ex60 euv rfl (by omega)
            refine G_imul C 62 dX11_taken_61 rfl (fun x61 ex61 => ?_)
            have Nx61 : x61 = nI (4 * (uv - 6)) := g_mulN ex61 rfl Nx60
            refine G_iconst (v := 3) C 63 dX11_taken_62 rfl rfl ?_
            refine G_iadd C 64 dX11_taken_63 rfl (fun x63 ex63 => ?_)
            have Nx63 : x63 = nI ((4 * (uv - 6)) + 3) := g_addN ex63 Nx61 rfl
            refine G_iald (n := 24) C 65 (by decide) (eMk (by decide) _ _ _) (((4 * (uv - 6)) + 3)) Nx63 (by omega) (by decide) dX11_taken_64 rfl (fun x64 ex64 => ?_)
            have Sx64 : x64 = P 5 (uv - 6) := ex64.trans (congrFun (congrFun hI.1 5) (uv - 6))
            refine G_goto C 70 dX11_taken_65 rfl ?_
            exact G_iret C dX11_taken_70 (⟨⟨nT, n, l, hR⟩, by unfold s_taken; rw [if_neg k7, if_neg k20, if_neg c43, hxn, if_neg (by rw [euv, show (6 : Int32) = nI 6 from rfl, pk_sub (by omega)]; exact fun z => (x_one_iff (by omega) (by omega)).mp z (by omega)), if_pos c49, ← ex60, Nx60, nI_clamp (by omega)]; exact Sx64⟩)
      ·
        have n34 : ¬ (uv % 6) < n := fun h => c34 ((g_ltN (a := (uv % 6)) (b := n) (hx := Nx29) (hy := Sx31) (by omega) (by omega)).mpr h)
        refine G_bipush (v := (-11)) C 39 dX11_taken_37 rfl rfl ?_
        exact G_iret C dX11_taken_39 (⟨⟨nT, n, l, hR⟩, by
            unfold s_taken
            rw [if_neg k7, if_neg k20, hxn]
            by_cases h6 : v < 6
            · have h7 : uv < 6 := by rw [euv, show (6 : Int32) = nI 6 from rfl] at h6; exact (nI_ltI (by omega) (by omega)).mp h6
              rw [if_pos h6, if_pos (by rw [euv]; exact (x_one_iff (by omega) (by omega)).mpr (by omega))]
            · have h7 : ¬ uv < 6 := fun z => h6 (by rw [euv, show (6 : Int32) = nI 6 from rfl]; exact (nI_ltI (by omega) (by omega)).mpr z)
              rw [if_neg h6, if_pos (by rw [euv, show (6 : Int32) = nI 6 from rfl, pk_sub (by omega)]; exact (x_one_iff (by omega) (by omega)).mpr (by omega))]⟩)
    ·
      have k20 := h17.symm.trans c20
      refine G_bipush (v := (-12)) C 25 dX11_taken_23 rfl rfl ?_
      exact G_iret C dX11_taken_25 (⟨⟨nT, n, l, hR⟩, by unfold s_taken; rw [if_neg k7, if_pos k20]⟩)
  ·
    have k7 := h4.symm.trans c7
    refine G_bipush (v := (-2)) C 12 dX11_taken_10 rfl rfl ?_
    exact G_iret C dX11_taken_12 (⟨⟨nT, n, l, hR⟩, by unfold s_taken; rw [if_pos k7]⟩)
