theorem dX10_put_0 : decode cX10_put 0 = .ok (.aload_n 0, 1) := by decide +kernel
theorem dX10_put_1 : decode cX10_put 1 = .ok (.getfield 57, 3) := by decide +kernel
theorem dX10_put_4 : decode cX10_put 4 = .ok (.iload_n 1, 1) := by decide +kernel
theorem dX10_put_5 : decode cX10_put 5 = .ok (.invokevirtual 139, 3) := by decide +kernel
theorem dX10_put_8 : decode cX10_put 8 = .ok (.ifCond .ne 6, 3) := by decide +kernel
theorem dX10_put_11 : decode cX10_put 11 = .ok (.bipush (-5), 2) := by decide +kernel
theorem dX10_put_13 : decode cX10_put 13 = .ok (.ireturn, 1) := by decide +kernel
theorem dX10_put_14 : decode cX10_put 14 = .ok (.iload_n 2, 1) := by decide +kernel
theorem dX10_put_15 : decode cX10_put 15 = .ok (.iconst 0, 1) := by decide +kernel
theorem dX10_put_16 : decode cX10_put 16 = .ok (.iconst 3, 1) := by decide +kernel
theorem dX10_put_17 : decode cX10_put 17 = .ok (.invokestatic 112, 3) := by decide +kernel
theorem dX10_put_20 : decode cX10_put 20 = .ok (.ifCond .eq 16, 3) := by decide +kernel
theorem dX10_put_23 : decode cX10_put 23 = .ok (.iload_n 3, 1) := by decide +kernel
theorem dX10_put_24 : decode cX10_put 24 = .ok (.iconst 0, 1) := by decide +kernel
theorem dX10_put_25 : decode cX10_put 25 = .ok (.getstatic 149, 3) := by decide +kernel
theorem dX10_put_28 : decode cX10_put 28 = .ok (.iload_n 2, 1) := by decide +kernel
theorem dX10_put_29 : decode cX10_put 29 = .ok (.iaload, 1) := by decide +kernel
theorem dX10_put_30 : decode cX10_put 30 = .ok (.invokestatic 112, 3) := by decide +kernel
theorem dX10_put_33 : decode cX10_put 33 = .ok (.ifCond .ne 6, 3) := by decide +kernel
theorem dX10_put_36 : decode cX10_put 36 = .ok (.bipush (-7), 2) := by decide +kernel
theorem dX10_put_38 : decode cX10_put 38 = .ok (.ireturn, 1) := by decide +kernel
theorem dX10_put_39 : decode cX10_put 39 = .ok (.aload_n 0, 1) := by decide +kernel
theorem dX10_put_40 : decode cX10_put 40 = .ok (.getfield 57, 3) := by decide +kernel
theorem dX10_put_43 : decode cX10_put 43 = .ok (.iload_n 2, 1) := by decide +kernel
theorem dX10_put_44 : decode cX10_put 44 = .ok (.invokevirtual 152, 3) := by decide +kernel
theorem dX10_put_47 : decode cX10_put 47 = .ok (.astore 4, 2) := by decide +kernel
theorem dX10_put_49 : decode cX10_put 49 = .ok (.aload 4, 2) := by decide +kernel
theorem dX10_put_51 : decode cX10_put 51 = .ok (.iload_n 1, 1) := by decide +kernel
theorem dX10_put_52 : decode cX10_put 52 = .ok (.iaload, 1) := by decide +kernel
theorem dX10_put_53 : decode cX10_put 53 = .ok (.istore 5, 2) := by decide +kernel
theorem dX10_put_55 : decode cX10_put 55 = .ok (.aload 4, 2) := by decide +kernel
theorem dX10_put_57 : decode cX10_put 57 = .ok (.iload_n 1, 1) := by decide +kernel
theorem dX10_put_58 : decode cX10_put 58 = .ok (.iload_n 3, 1) := by decide +kernel
theorem dX10_put_59 : decode cX10_put 59 = .ok (.iastore, 1) := by decide +kernel
theorem dX10_put_60 : decode cX10_put 60 = .ok (.iload 5, 2) := by decide +kernel
theorem dX10_put_62 : decode cX10_put 62 = .ok (.ireturn, 1) := by decide +kernel
set_option maxHeartbeats 4000000 in
set_option maxRecDepth 100000 in
theorem c_X10_put (d : Nat) (TX : gTX) (P B s : gS) (hR0 : RC TX P B s) (p q v : Int32) : gMt SC yX10_put cX10_put 6 (some .int) (d + 2) (fun ad => [.ref (ad 0), .int p, .int q, .int v]) s (gQi SC (fun r s' => RC TX (s_puP P p q v) B s' ∧ r = s_puR P p q v)) := by
  obtain ⟨nT, n, l, hR⟩ := hR0
  have hI := hR.1
  have hn6 : n ≤ 6 := hI.2.2.1.2.1
  have hl6 : l < 6 := cI_l6 hI
  have hxn : x_n P = n := x_nOf hI.2.2.1.1 hn6
  have hbI := hR.2.2
  refine gMt_of SC_ok (by decide +kernel) (fun ad => [some (.ref (ad 0)), some (.int p), some (.int q), some (.int v), none, none]) (fun _ => rfl) (fun _ => rfl) (fun _ => Nat.le_of_ble_eq_true rfl) (fun E C0 => ?_)
  have C : gCx SC E RX10 cX10_put 6 (some .int) (d + 2) := C0
  have i : cI TX nT n l 45 P s := hI
  have f : Fr (mW 45) s s := Fr.rf
  refine G_aload_n (i := 0) C 1 dX10_put_0 rfl rfl rfl ?_
  refine X10_57g C 4 dX10_put_1 rfl ?_
  refine G_iload_n (i := 1) C 5 dX10_put_4 rfl rfl rfl ?_
  refine G_calli 8 (G_runV C Kc_X9_isOne KV_X10_139 (by omega) (lW0 (Or.inl rfl)) (eW _ _ _ (Or.inl rfl)) rfl (c_X9_isOne 0 45 n (Or.inl rfl) s (cI_n i) p) rfl rfl rfl (Nat.le_of_ble_eq_true rfl) rfl dX10_put_5) rfl (fun x5 s5 h5 => ?_)
  obtain ⟨es5, h5⟩ := h5
  have es5 := es5.symm
  subst es5
  refine G_if_ne C 14 11 dX10_put_8 rfl rfl (fun c8 => ?_) (fun c8 => ?_)
  ·
    have k8 := g_neT h5 c8
    obtain ⟨up, hup, eup⟩ := x_oneT hn6 k8
    have cup : p.toNatClampNeg = up := by rw [eup, nI_clamp (by omega)]
    refine G_iload_n (i := 2) C 15 dX10_put_14 rfl rfl rfl ?_
    refine G_iconst (v := 0) C 16 dX10_put_15 rfl rfl ?_
    refine G_iconst (v := 3) C 17 dX10_put_16 rfl rfl ?_
    refine G_calli 20 (G_runS C Kc_X10_within KS_X10_112 (by omega) (c_X10_within 0 q 0 3 s) rfl rfl (Nat.le_of_ble_eq_true rfl) rfl dX10_put_17) rfl (fun x17 s17 h17 => ?_)
    obtain ⟨es17, h17⟩ := h17
    have es17 := es17.symm
    subst es17
    refine G_if_eq C 36 23 dX10_put_20 rfl rfl (fun c20 => ?_) (fun c20 => ?_)
    ·
      have k20 := h17.symm.trans c20
      refine G_bipush (v := (-7)) C 38 dX10_put_36 rfl rfl ?_
      exact G_iret C dX10_put_38 (⟨by unfold s_puP s_puOk; rw [hxn, if_neg k8, if_pos k20, if_pos rfl]; exact ⟨nT, n, l, hR⟩, by unfold s_puR s_puOk; rw [hxn, if_neg k8, if_pos k20, if_pos rfl]⟩)
    ·
      have k20 := g_neT h17 c20
      obtain ⟨uq, huq, euq⟩ := x_inR (b := 3) k20 rfl (by decide)
      have zuq : uq = 0 ∨ uq = 1 ∨ uq = 2 ∨ uq = 3 := by omega
      rcases zuq with rfl | rfl | rfl | rfl
      ·
        obtain rfl : q = 0 := euq
        refine G_iload_n (i := 3) C 24 dX10_put_23 rfl rfl rfl ?_
        refine G_iconst (v := 0) C 25 dX10_put_24 rfl rfl ?_
        refine G_getMP C 28 dX10_put_25 rfl ?_
        refine G_iload_n (i := 2) C 29 dX10_put_28 rfl rfl rfl ?_
        refine G_mpld C 30 (0) rfl (by omega) dX10_put_29 rfl (fun x29 ex29 => ?_)
        refine G_calli 33 (G_runS C Kc_X10_within KS_X10_112 (by omega) (c_X10_within 0 v 0 x29 s) rfl rfl (Nat.le_of_ble_eq_true rfl) rfl dX10_put_30) rfl (fun x30 s30 h30 => ?_)
        obtain ⟨es30, h30⟩ := h30
        have es30 := es30.symm
        subst es30
        refine G_if_ne C 39 36 dX10_put_33 rfl rfl (fun c33 => ?_) (fun c33 => ?_)
        ·
          have k33 := g_neT h30 c33
          refine G_aload_n (i := 0) C 40 dX10_put_39 rfl rfl rfl ?_
          refine X10_57g C 43 dX10_put_40 rfl ?_
          refine G_iload_n (i := 2) C 44 dX10_put_43 rfl rfl rfl ?_
          refine G_callr 47 (G_runV C Kc_X9_row KV_X10_152 (by omega) (lW0 (Or.inl rfl)) (eW _ _ _ (Or.inl rfl)) rfl (c_X9_row_0 0 45 (Or.inl rfl) s) rfl rfl rfl (Nat.le_of_ble_eq_true rfl) rfl dX10_put_44) rfl (fun q44 s44 h44 => ?_)
          obtain ⟨es44, h44⟩ := h44
          have es44 := es44.symm
          subst es44
          obtain rfl : q44 = 45 + 2 := h44
          refine G_astore (L' := [some (.ref (e_ad E 0)), some (.int p), some (.int 0), some (.int v), some (.ref (e_ad E (45 + 2))), none]) C 49 dX10_put_47 rfl (Nat.le_of_ble_eq_true rfl) rfl rfl ?_
          refine G_aload C 51 dX10_put_49 rfl rfl ?_
          refine G_iload_n (i := 1) C 52 dX10_put_51 rfl rfl rfl ?_
          refine G_iald (n := 6) C 53 (lW (Or.inl rfl) (by decide)) (eW2 _ _ _ (Or.inl rfl)) (up) eup (by omega) (by decide) dX10_put_52 rfl (fun x52 ex52 => ?_)
          have Sx52 : x52 = P 2 (up) := ex52.trans (congrFun (congrFun i.2.1 2) _)
          refine G_istore (L' := [some (.ref (e_ad E 0)), some (.int p), some (.int 0), some (.int v), some (.ref (e_ad E (45 + 2))), some (.int x52)]) C 55 dX10_put_53 rfl (Nat.le_of_ble_eq_true rfl) rfl rfl ?_
          refine G_aload C 57 dX10_put_55 rfl rfl ?_
          refine G_iload_n (i := 1) C 58 dX10_put_57 rfl rfl rfl ?_
          refine G_iload_n (i := 3) C 59 dX10_put_58 rfl rfl rfl ?_
          refine G_iast (n := 6) C 60 (lW (Or.inl rfl) (by decide)) (fun σ => eW2 _ _ σ (Or.inl rfl)) (up) eup (by omega) (by decide) (Nat.le_of_eq (nWi (Or.inl rfl) (by decide) (by decide)).symm) dX10_put_59 rfl (fun s59 es59 => ?_)
          have f_1 : Fr (mW 45) s s59 := Fr.tr f (Fr.upW es59 (by decide))
          refine G_iload C 62 dX10_put_60 rfl rfl ?_
          have e29 : s_pmost 0 = x29 := (ex29.trans (by decide)).symm
          exact G_iret C dX10_put_62 (⟨by unfold s_puP s_puOk; rw [hxn, if_neg k8, if_neg k20, e29, if_neg k33, cup]; exact RC_up hR (cI_up2 hI es59) f_1 rfl rfl (eI_of hbI.2.2.2.2.2.1 rfl), by unfold s_puR s_puOk; rw [hxn, if_neg k8, if_neg k20, e29, if_neg k33, cup]; exact Sx52⟩)
        ·
          have k33 := h30.symm.trans c33
          refine G_bipush (v := (-7)) C 38 dX10_put_36 rfl rfl ?_
          have e29 : s_pmost 0 = x29 := (ex29.trans (by decide)).symm
          exact G_iret C dX10_put_38 (⟨by unfold s_puP s_puOk; rw [hxn, if_neg k8, if_neg k20, e29, if_pos k33]; exact ⟨nT, n, l, hR⟩, by unfold s_puR s_puOk; rw [hxn, if_neg k8, if_neg k20, e29, if_pos k33]⟩)
      ·
        obtain rfl : q = 1 := euq
        refine G_iload_n (i := 3) C 24 dX10_put_23 rfl rfl rfl ?_
        refine G_iconst (v := 0) C 25 dX10_put_24 rfl rfl ?_
        refine G_getMP C 28 dX10_put_25 rfl ?_
        refine G_iload_n (i := 2) C 29 dX10_put_28 rfl rfl rfl ?_
        refine G_mpld C 30 (1) rfl (by omega) dX10_put_29 rfl (fun x29 ex29 => ?_)
        refine G_calli 33 (G_runS C Kc_X10_within KS_X10_112 (by omega) (c_X10_within 0 v 0 x29 s) rfl rfl (Nat.le_of_ble_eq_true rfl) rfl dX10_put_30) rfl (fun x30 s30 h30 => ?_)
        obtain ⟨es30, h30⟩ := h30
        have es30 := es30.symm
        subst es30
        refine G_if_ne C 39 36 dX10_put_33 rfl rfl (fun c33 => ?_) (fun c33 => ?_)
        ·
          have k33 := g_neT h30 c33
          refine G_aload_n (i := 0) C 40 dX10_put_39 rfl rfl rfl ?_
          refine X10_57g C 43 dX10_put_40 rfl ?_
          refine G_iload_n (i := 2) C 44 dX10_put_43 rfl rfl rfl ?_
          refine G_callr 47 (G_runV C Kc_X9_row KV_X10_152 (by omega) (lW0 (Or.inl rfl)) (eW _ _ _ (Or.inl rfl)) rfl (c_X9_row_1 0 45 (Or.inl rfl) s) rfl rfl rfl (Nat.le_of_ble_eq_true rfl) rfl dX10_put_44) rfl (fun q44 s44 h44 => ?_)
          obtain ⟨es44, h44⟩ := h44
          have es44 := es44.symm
          subst es44
          obtain rfl : q44 = 45 + 3 := h44
          refine G_astore (L' := [some (.ref (e_ad E 0)), some (.int p), some (.int 1), some (.int v), some (.ref (e_ad E (45 + 3))), none]) C 49 dX10_put_47 rfl (Nat.le_of_ble_eq_true rfl) rfl rfl ?_
          refine G_aload C 51 dX10_put_49 rfl rfl ?_
          refine G_iload_n (i := 1) C 52 dX10_put_51 rfl rfl rfl ?_
          refine G_iald (n := 6) C 53 (lW (Or.inl rfl) (by decide)) (eW3 _ _ _ (Or.inl rfl)) (up) eup (by omega) (by decide) dX10_put_52 rfl (fun x52 ex52 => ?_)
          have Sx52 : x52 = P 3 (up) := ex52.trans (congrFun (congrFun i.2.1 3) _)
          obtain ⟨mx52, hmx52, emx52⟩ := (cI_p i (p := up) (by omega)).2.1
          refine G_istore (L' := [some (.ref (e_ad E 0)), some (.int p), some (.int 1), some (.int v), some (.ref (e_ad E (45 + 3))), some (.int x52)]) C 55 dX10_put_53 rfl (Nat.le_of_ble_eq_true rfl) rfl rfl ?_
          refine G_aload C 57 dX10_put_55 rfl rfl ?_
          refine G_iload_n (i := 1) C 58 dX10_put_57 rfl rfl rfl ?_
          refine G_iload_n (i := 3) C 59 dX10_put_58 rfl rfl rfl ?_
          refine G_iast (n := 6) C 60 (lW (Or.inl rfl) (by decide)) (fun σ => eW3 _ _ σ (Or.inl rfl)) (up) eup (by omega) (by decide) (Nat.le_of_eq (nWi (Or.inl rfl) (by decide) (by decide)).symm) dX10_put_59 rfl (fun s59 es59 => ?_)
          have f_1 : Fr (mW 45) s s59 := Fr.tr f (Fr.upW es59 (by decide))
          refine G_iload C 62 dX10_put_60 rfl rfl ?_
          have e29 : s_pmost 1 = x29 := (ex29.trans (by decide)).symm
          have hv : ∃ m, m < 1024 ∧ v = nI m := by obtain ⟨z, hz, ez⟩ := x_inR (b := 1023) k33 (ex29.trans (by decide)) (by decide); exact ⟨z, by omega, ez⟩
          exact G_iret C dX10_put_62 (⟨by unfold s_puP s_puOk; rw [hxn, if_neg k8, if_neg k20, e29, if_neg k33, cup]; exact RC_up hR (cI_up3 hI es59 hv) f_1 rfl rfl (eI_of hbI.2.2.2.2.2.1 rfl), by unfold s_puR s_puOk; rw [hxn, if_neg k8, if_neg k20, e29, if_neg k33, cup]; exact Sx52⟩)
        ·
          have k33 := h30.symm.trans c33
          refine G_bipush (v := (-7)) C 38 dX10_put_36 rfl rfl ?_
          have e29 : s_pmost 1 = x29 := (ex29.trans (by decide)).symm
          exact G_iret C dX10_put_38 (⟨by unfold s_puP s_puOk; rw [hxn, if_neg k8, if_neg k20, e29, if_pos k33]; exact ⟨nT, n, l, hR⟩, by unfold s_puR s_puOk; rw [hxn, if_neg k8, if_neg k20, e29, if_pos k33]⟩)
      ·
        obtain rfl : q = 2 := euq
        refine G_iload_n (i := 3) C 24 dX10_put_23 rfl rfl rfl ?_
        refine G_iconst (v := 0) C 25 dX10_put_24 rfl rfl ?_
        refine G_getMP C 28 dX10_put_25 rfl ?_
        refine G_iload_n (i := 2) C 29 dX10_put_28 rfl rfl rfl ?_
        refine G_mpld C 30 (2) rfl (by omega) dX10_put_29 rfl (fun x29 ex29 => ?_)
        refine G_calli 33 (G_runS C Kc_X10_within KS_X10_112 (by omega) (c_X10_within 0 v 0 x29 s) rfl rfl (Nat.le_of_ble_eq_true rfl) rfl dX10_put_30) rfl (fun x30 s30 h30 => ?_)
        obtain ⟨es30, h30⟩ := h30
        have es30 := es30.symm
        subst es30
        refine G_if_ne C 39 36 dX10_put_33 rfl rfl (fun c33 => ?_) (fun c33 => ?_)
        ·
          have k33 := g_neT h30 c33
          refine G_aload_n (i := 0) C 40 dX10_put_39 rfl rfl rfl ?_
          refine X10_57g C 43 dX10_put_40 rfl ?_
          refine G_iload_n (i := 2) C 44 dX10_put_43 rfl rfl rfl ?_
          refine G_callr 47 (G_runV C Kc_X9_row KV_X10_152 (by omega) (lW0 (Or.inl rfl)) (eW _ _ _ (Or.inl rfl)) rfl (c_X9_row_2 0 45 (Or.inl rfl) s) rfl rfl rfl (Nat.le_of_ble_eq_true rfl) rfl dX10_put_44) rfl (fun q44 s44 h44 => ?_)
          obtain ⟨es44, h44⟩ := h44
          have es44 := es44.symm
          subst es44
          obtain rfl : q44 = 45 + 4 := h44
          refine G_astore (L' := [some (.ref (e_ad E 0)), some (.int p), some (.int 2), some (.int v), some (.ref (e_ad E (45 + 4))), none]) C 49 dX10_put_47 rfl (Nat.le_of_ble_eq_true rfl) rfl rfl ?_
          refine G_aload C 51 dX10_put_49 rfl rfl ?_
          refine G_iload_n (i := 1) C 52 dX10_put_51 rfl rfl rfl ?_
          refine G_iald (n := 6) C 53 (lW (Or.inl rfl) (by decide)) (eW4 _ _ _ (Or.inl rfl)) (up) eup (by omega) (by decide) dX10_put_52 rfl (fun x52 ex52 => ?_)
          have Sx52 : x52 = P 4 (up) := ex52.trans (congrFun (congrFun i.2.1 4) _)
          obtain ⟨mx52, hmx52, emx52⟩ := (cI_p i (p := up) (by omega)).2.2
          refine G_istore (L' := [some (.ref (e_ad E 0)), some (.int p), some (.int 2), some (.int v), some (.ref (e_ad E (45 + 4))), some (.int x52)]) C 55 dX10_put_53 rfl (Nat.le_of_ble_eq_true rfl) rfl rfl ?_
          refine G_aload C 57 dX10_put_55 rfl rfl ?_
          refine G_iload_n (i := 1) C 58 dX10_put_57 rfl rfl rfl ?_
          refine G_iload_n (i := 3) C 59 dX10_put_58 rfl rfl rfl ?_
          refine G_iast (n := 6) C 60 (lW (Or.inl rfl) (by decide)) (fun σ => eW4 _ _ σ (Or.inl rfl)) (up) eup (by omega) (by decide) (Nat.le_of_eq (nWi (Or.inl rfl) (by decide) (by decide)).symm) dX10_put_59 rfl (fun s59 es59 => ?_)
          have f_1 : Fr (mW 45) s s59 := Fr.tr f (Fr.upW es59 (by decide))
          refine G_iload C 62 dX10_put_60 rfl rfl ?_
          have e29 : s_pmost 2 = x29 := (ex29.trans (by decide)).symm
          have hv : ∃ m, m < 1024 ∧ v = nI m := by obtain ⟨z, hz, ez⟩ := x_inR (b := 1023) k33 (ex29.trans (by decide)) (by decide); exact ⟨z, by omega, ez⟩
          exact G_iret C dX10_put_62 (⟨by unfold s_puP s_puOk; rw [hxn, if_neg k8, if_neg k20, e29, if_neg k33, cup]; exact RC_up hR (cI_up4 hI es59 hv) f_1 rfl rfl (eI_of hbI.2.2.2.2.2.1 rfl), by unfold s_puR s_puOk; rw [hxn, if_neg k8, if_neg k20, e29, if_neg k33, cup]; exact Sx52⟩)
        ·
          have k33 := h30.symm.trans c33
          refine G_bipush (v := (-7)) C 38 dX10_put_36 rfl rfl ?_
          have e29 : s_pmost 2 = x29 := (ex29.trans (by decide)).symm
          exact G_iret C dX10_put_38 (⟨by unfold s_puP s_puOk; rw [hxn, if_neg k8, if_neg k20, e29, if_pos k33]; exact ⟨nT, n, l, hR⟩, by unfold s_puR s_puOk; rw [hxn, if_neg k8, if_neg k20, e29, if_pos k33]⟩)
      ·
        obtain rfl : q = 3 := euq
        refine G_iload_n (i := 3) C 24 dX10_put_23 rfl rfl rfl ?_
        refine G_iconst (v := 0) C 25 dX10_put_24 rfl rfl ?_
        refine G_getMP C 28 dX10_put_25 rfl ?_
        refine G_iload_n (i := 2) C 29 dX10_put_28 rfl rfl rfl ?_
        refine G_mpld C 30 (3) rfl (by omega) dX10_put_29 rfl (fun x29 ex29 => ?_)
        refine G_calli 33 (G_runS C Kc_X10_within KS_X10_112 (by omega) (c_X10_within 0 v 0 x29 s) rfl rfl (Nat.le_of_ble_eq_true rfl) rfl dX10_put_30) rfl (fun x30 s30 h30 => ?_)
        obtain ⟨es30, h30⟩ := h30
        have es30 := es30.symm
        subst es30
        refine G_if_ne C 39 36 dX10_put_33 rfl rfl (fun c33 => ?_) (fun c33 => ?_)
        ·
          have k33 := g_neT h30 c33
          refine G_aload_n (i := 0) C 40 dX10_put_39 rfl rfl rfl ?_
          refine X10_57g C 43 dX10_put_40 rfl ?_
          refine G_iload_n (i := 2) C 44 dX10_put_43 rfl rfl rfl ?_
          refine G_callr 47 (G_runV C Kc_X9_row KV_X10_152 (by omega) (lW0 (Or.inl rfl)) (eW _ _ _ (Or.inl rfl)) rfl (c_X9_row_3 0 45 (Or.inl rfl) s) rfl rfl rfl (Nat.le_of_ble_eq_true rfl) rfl dX10_put_44) rfl (fun q44 s44 h44 => ?_)
          obtain ⟨es44, h44⟩ := h44
          have es44 := es44.symm
          subst es44
          obtain rfl : q44 = 45 + 5 := h44
          refine G_astore (L' := [some (.ref (e_ad E 0)), some (.int p), some (.int 3), some (.int v), some (.ref (e_ad E (45 + 5))), none]) C 49 dX10_put_47 rfl (Nat.le_of_ble_eq_true rfl) rfl rfl ?_
          refine G_aload C 51 dX10_put_49 rfl rfl ?_
          refine G_iload_n (i := 1) C 52 dX10_put_51 rfl rfl rfl ?_
          refine G_iald (n := 6) C 53 (lW (Or.inl rfl) (by decide)) (eW5 _ _ _ (Or.inl rfl)) (up) eup (by omega) (by decide) dX10_put_52 rfl (fun x52 ex52 => ?_)
          have Sx52 : x52 = P 5 (up) := ex52.trans (congrFun (congrFun i.2.1 5) _)
          refine G_istore (L' := [some (.ref (e_ad E 0)), some (.int p), some (.int 3), some (.int v), some (.ref (e_ad E (45 + 5))), some (.int x52)]) C 55 dX10_put_53 rfl (Nat.le_of_ble_eq_true rfl) rfl rfl ?_
          refine G_aload C 57 dX10_put_55 rfl rfl ?_
          refine G_iload_n (i := 1) C 58 dX10_put_57 rfl rfl rfl ?_
          refine G_iload_n (i := 3) C 59 dX10_put_58 rfl rfl rfl ?_
          refine G_iast (n := 6) C 60 (lW (Or.inl rfl) (by decide)) (fun σ => eW5 _ _ σ (Or.inl rfl)) (up) eup (by omega) (by decide) (Nat.le_of_eq (nWi (Or.inl rfl) (by decide) (by decide)).symm) dX10_put_59 rfl (fun s59 es59 => ?_)
          have f_1 : Fr (mW 45) s s59 := Fr.tr f (Fr.upW es59 (by decide))
          refine G_iload C 62 dX10_put_60 rfl rfl ?_
          have e29 : s_pmost 3 = x29 := (ex29.trans (by decide)).symm
          exact G_iret C dX10_put_62 (⟨by unfold s_puP s_puOk; rw [hxn, if_neg k8, if_neg k20, e29, if_neg k33, cup]; exact RC_up hR (cI_up5 hI es59) f_1 rfl rfl (eI_of hbI.2.2.2.2.2.1 rfl), by unfold s_puR s_puOk; rw [hxn, if_neg k8, if_neg k20, e29, if_neg k33, cup]; exact Sx52⟩)
        ·
          have k33 := h30.symm.trans c33
          refine G_bipush (v := (-7)) C 38 dX10_put_36 rfl rfl ?_
          have e29 : s_pmost 3 = x29 := (ex29.trans (by decide)).symm
          exact G_iret C dX10_put_38 (⟨by unfold s_puP s_puOk; rw [hxn, if_neg k8, if_neg k20, e29, if_pos k33]; exact ⟨nT, n, l, hR⟩, by unfold s_puR s_puOk; rw [hxn, if_neg k8, if_neg k20, e29, if_pos k33]⟩)
  ·
    have k8 := h5.symm.trans c8
    refine G_bipush (v := (-5)) C 13 dX10_put_11 rfl rfl ?_
    exact G_iret C dX10_put_13 (⟨by unfold s_puP; rw [hxn, if_pos k8]; exact ⟨nT, n, l, hR⟩, by unfold s_puR; rw [hxn, if_pos k8]⟩)
theorem dX10_told_0 : decode cX10_told 0 = .ok (.aload_n 0, 1) := by decide +kernel
theorem dX10_told_1 : decode cX10_told 1 = .ok (.getfield 57, 3) := by decide +kernel
theorem dX10_told_4 : decode cX10_told 4 = .ok (.iload_n 1, 1) := by decide +kernel
theorem dX10_told_5 : decode cX10_told 5 = .ok (.invokevirtual 139, 3) := by decide +kernel
theorem dX10_told_8 : decode cX10_told 8 = .ok (.ifCond .ne 6, 3) := by decide +kernel
theorem dX10_told_11 : decode cX10_told 11 = .ok (.bipush (-5), 2) := by decide +kernel
theorem dX10_told_13 : decode cX10_told 13 = .ok (.ireturn, 1) := by decide +kernel
theorem dX10_told_14 : decode cX10_told 14 = .ok (.iload_n 2, 1) := by decide +kernel
theorem dX10_told_15 : decode cX10_told 15 = .ok (.iconst 0, 1) := by decide +kernel
theorem dX10_told_16 : decode cX10_told 16 = .ok (.iconst 5, 1) := by decide +kernel
theorem dX10_told_17 : decode cX10_told 17 = .ok (.invokestatic 112, 3) := by decide +kernel
theorem dX10_told_20 : decode cX10_told 20 = .ok (.ifCond .eq 14, 3) := by decide +kernel
theorem dX10_told_23 : decode cX10_told 23 = .ok (.aload_n 0, 1) := by decide +kernel
theorem dX10_told_24 : decode cX10_told 24 = .ok (.getfield 57, 3) := by decide +kernel
theorem dX10_told_27 : decode cX10_told 27 = .ok (.iload_n 2, 1) := by decide +kernel
theorem dX10_told_28 : decode cX10_told 28 = .ok (.invokevirtual 152, 3) := by decide +kernel
theorem dX10_told_31 : decode cX10_told 31 = .ok (.iload_n 1, 1) := by decide +kernel
theorem dX10_told_32 : decode cX10_told 32 = .ok (.iaload, 1) := by decide +kernel
theorem dX10_told_33 : decode cX10_told 33 = .ok (.ireturn, 1) := by decide +kernel
theorem dX10_told_34 : decode cX10_told 34 = .ok (.iload_n 2, 1) := by decide +kernel
theorem dX10_told_35 : decode cX10_told 35 = .ok (.tableswitch 67 6 8 #[25, 37, 54], 25) := by decide +kernel
theorem dX10_told_60 : decode cX10_told 60 = .ok (.aload_n 0, 1) := by decide +kernel
theorem dX10_told_61 : decode cX10_told 61 = .ok (.getfield 57, 3) := by decide +kernel
theorem dX10_told_64 : decode cX10_told 64 = .ok (.iload_n 1, 1) := by decide +kernel
theorem dX10_told_65 : decode cX10_told 65 = .ok (.sipush 1023, 3) := by decide +kernel
theorem dX10_told_68 : decode cX10_told 68 = .ok (.invokevirtual 156, 3) := by decide +kernel
theorem dX10_told_71 : decode cX10_told 71 = .ok (.ireturn, 1) := by decide +kernel
theorem dX10_told_72 : decode cX10_told 72 = .ok (.aload_n 0, 1) := by decide +kernel
theorem dX10_told_73 : decode cX10_told 73 = .ok (.getfield 57, 3) := by decide +kernel
theorem dX10_told_76 : decode cX10_told 76 = .ok (.iload_n 1, 1) := by decide +kernel
theorem dX10_told_77 : decode cX10_told 77 = .ok (.invokevirtual 159, 3) := by decide +kernel
theorem dX10_told_80 : decode cX10_told 80 = .ok (.ifCond .eq 7, 3) := by decide +kernel
theorem dX10_told_83 : decode cX10_told 83 = .ok (.iconst 1, 1) := by decide +kernel
theorem dX10_told_84 : decode cX10_told 84 = .ok (.goto 4, 3) := by decide +kernel
theorem dX10_told_87 : decode cX10_told 87 = .ok (.iconst 0, 1) := by decide +kernel
theorem dX10_told_88 : decode cX10_told 88 = .ok (.ireturn, 1) := by decide +kernel
theorem dX10_told_89 : decode cX10_told 89 = .ok (.sipush 1000, 3) := by decide +kernel
theorem dX10_told_92 : decode cX10_told 92 = .ok (.aload_n 0, 1) := by decide +kernel
theorem dX10_told_93 : decode cX10_told 93 = .ok (.getfield 57, 3) := by decide +kernel
theorem dX10_told_96 : decode cX10_told 96 = .ok (.iload_n 1, 1) := by decide +kernel
theorem dX10_told_97 : decode cX10_told 97 = .ok (.invokevirtual 162, 3) := by decide +kernel
theorem dX10_told_100 : decode cX10_told 100 = .ok (.iadd, 1) := by decide +kernel
theorem dX10_told_101 : decode cX10_told 101 = .ok (.ireturn, 1) := by decide +kernel
theorem dX10_told_102 : decode cX10_told 102 = .ok (.bipush (-7), 2) := by decide +kernel
theorem dX10_told_104 : decode cX10_told 104 = .ok (.ireturn, 1) := by decide +kernel
set_option maxHeartbeats 4000000 in
set_option maxRecDepth 100000 in
theorem c_X10_told (d : Nat) (TX : gTX) (P B s : gS) (hR0 : RC TX P B s) (p q : Int32) : gMt SC yX10_told cX10_told 3 (some .int) (d + 7) (fun ad => [.ref (ad 0), .int p, .int q]) s (gQi SC (fun r s' => RC TX P B s' ∧ r = s_told TX P p q)) := by
  obtain ⟨nT, n, l, hR⟩ := hR0
  have hI := hR.1
  have hn6 : n ≤ 6 := hI.2.2.1.2.1
  have hl6 : l < 6 := cI_l6 hI
  have hxn : x_n P = n := x_nOf hI.2.2.1.1 hn6
  have hbI := hR.2.2
  refine gMt_of SC_ok (by decide +kernel) (fun ad => [some (.ref (ad 0)), some (.int p), some (.int q)]) (fun _ => rfl) (fun _ => rfl) (fun _ => Nat.le_of_ble_eq_true rfl) (fun E C0 => ?_)
  have C : gCx SC E RX10 cX10_told 3 (some .int) (d + 7) := C0
  have fm : cI TX nT n l 45 P s := hI
  have fq : Fr mQ s s := Fr.rf
  refine G_aload_n (i := 0) C 1 dX10_told_0 rfl rfl rfl ?_
  refine X10_57g C 4 dX10_told_1 rfl ?_
  refine G_iload_n (i := 1) C 5 dX10_told_4 rfl rfl rfl ?_
  refine G_calli 8 (G_runV C Kc_X9_isOne KV_X10_139 (by omega) (lW0 (Or.inl rfl)) (eW _ _ _ (Or.inl rfl)) rfl (c_X9_isOne 0 45 n (Or.inl rfl) s (cI_n fm) p) rfl rfl rfl (Nat.le_of_ble_eq_true rfl) rfl dX10_told_5) rfl (fun x5 s5 h5 => ?_)
  obtain ⟨es5, h5⟩ := h5
  have es5 := es5.symm
  subst es5
  refine G_if_ne C 14 11 dX10_told_8 rfl rfl (fun c8 => ?_) (fun c8 => ?_)
  ·
    have k8 := g_neT h5 c8
    obtain ⟨up, hup, eup⟩ := x_oneT hn6 k8
    have cup : p.toNatClampNeg = up := by rw [eup, nI_clamp (by omega)]
    refine G_iload_n (i := 2) C 15 dX10_told_14 rfl rfl rfl ?_
    refine G_iconst (v := 0) C 16 dX10_told_15 rfl rfl ?_
    refine G_iconst (v := 5) C 17 dX10_told_16 rfl rfl ?_
    refine G_calli 20 (G_runS C Kc_X10_within KS_X10_112 (by omega) (c_X10_within 0 q 0 5 s) rfl rfl (Nat.le_of_ble_eq_true rfl) rfl dX10_told_17) rfl (fun x17 s17 h17 => ?_)
    obtain ⟨es17, h17⟩ := h17
    have es17 := es17.symm
    subst es17
    refine G_if_eq C 34 23 dX10_told_20 rfl rfl (fun c20 => ?_) (fun c20 => ?_)
    ·
      have k20 := h17.symm.trans c20
      refine G_iload_n (i := 2) C 35 dX10_told_34 rfl rfl rfl ?_
      by_cases c35 : q = 6
      ·
        refine G_tsIn C 60 (6) c35 dX10_told_35 (by decide) rfl rfl ?_
        refine G_aload_n (i := 0) C 61 dX10_told_60 rfl rfl rfl ?_
        refine X10_57g C 64 dX10_told_61 rfl ?_
        refine G_iload_n (i := 1) C 65 dX10_told_64 rfl rfl rfl ?_
        refine G_sipush (v := 1023) C 68 dX10_told_65 rfl rfl ?_
        refine G_calli 71 (G_runV C Kc_X9_wishedBy KV_X10_156 (by omega) (lW0 (Or.inl rfl)) (eW _ _ _ (Or.inl rfl)) rfl (c_X9_wishedBy 0 TX nT n l 45 P s fm p up eup (by omega) 1023) rfl rfl rfl (Nat.le_of_ble_eq_true rfl) rfl dX10_told_68) rfl (fun x68 s68 h68 => ?_)
        have fm_1 : cI TX nT n l 45 P s68 := cI_q fm (h68.1.SQ)
        have fq_1 : Fr mQ s s68 := Fr.tr fq (h68.1.SQ)
        have z0 : ¬ q = 0 := fun z => by rw [z] at k20; exact absurd k20 (by decide)
        have z1 : ¬ q = 1 := fun z => by rw [z] at k20; exact absurd k20 (by decide)
        have z2 : ¬ q = 2 := fun z => by rw [z] at k20; exact absurd k20 (by decide)
        have z3 : ¬ q = 3 := fun z => by rw [z] at k20; exact absurd k20 (by decide)
        have z4 : ¬ q = 4 := fun z => by rw [z] at k20; exact absurd k20 (by decide)
        have z5 : ¬ q = 5 := fun z => by rw [z] at k20; exact absurd k20 (by decide)
        exact G_iret C dX10_told_71 (⟨RC_q hR fq_1, h68.2.trans (by unfold s_told; rw [hxn, if_neg k8, if_neg z0, if_neg z1, if_neg z2, if_neg z3, if_neg z4, if_neg z5, if_pos c35, cup])⟩)
      by_cases c35_1 : q = 7
      ·
        refine G_tsIn C 72 (7) c35_1 dX10_told_35 (by decide) rfl rfl ?_
        refine G_aload_n (i := 0) C 73 dX10_told_72 rfl rfl rfl ?_
        refine X10_57g C 76 dX10_told_73 rfl ?_
        refine G_iload_n (i := 1) C 77 dX10_told_76 rfl rfl rfl ?_
        refine G_calli 80 (G_runV C Kc_X9_listens KV_X10_159 (by omega) (lW0 (Or.inl rfl)) (eW _ _ _ (Or.inl rfl)) rfl (c_X9_listens 0 TX nT n l 45 P s fm p up eup (by omega)) rfl rfl rfl (Nat.le_of_ble_eq_true rfl) rfl dX10_told_77) rfl (fun x77 s77 h77 => ?_)
        obtain ⟨es77, h77⟩ := h77
        have es77 := es77.symm
        subst es77
        refine G_if_eq C 87 83 dX10_told_80 rfl rfl (fun c80 => ?_) (fun c80 => ?_)
        ·
          have k80 := h77.symm.trans c80
          refine G_iconst (v := 0) C 88 dX10_told_87 rfl rfl ?_
          have z0 : ¬ q = 0 := fun z => by rw [z] at k20; exact absurd k20 (by decide)
          have z1 : ¬ q = 1 := fun z => by rw [z] at k20; exact absurd k20 (by decide)
          have z2 : ¬ q = 2 := fun z => by rw [z] at k20; exact absurd k20 (by decide)
          have z3 : ¬ q = 3 := fun z => by rw [z] at k20; exact absurd k20 (by decide)
          have z4 : ¬ q = 4 := fun z => by rw [z] at k20; exact absurd k20 (by decide)
          have z5 : ¬ q = 5 := fun z => by rw [z] at k20; exact absurd k20 (by decide)
          exact G_iret C dX10_told_88 (⟨RC_q hR fq, by unfold s_told; rw [hxn, if_neg k8, if_neg z0, if_neg z1, if_neg z2, if_neg z3, if_neg z4, if_neg z5, if_neg c35, if_pos c35_1, cup]; exact k80.symm⟩)
        ·
          have k80 := g_neT h77 c80
          refine G_iconst (v := 1) C 84 dX10_told_83 rfl rfl ?_
          refine G_goto C 88 dX10_told_84 rfl ?_
          have z0 : ¬ q = 0 := fun z => by rw [z] at k20; exact absurd k20 (by decide)
          have z1 : ¬ q = 1 := fun z => by rw [z] at k20; exact absurd k20 (by decide)
          have z2 : ¬ q = 2 := fun z => by rw [z] at k20; exact absurd k20 (by decide)
          have z3 : ¬ q = 3 := fun z => by rw [z] at k20; exact absurd k20 (by decide)
          have z4 : ¬ q = 4 := fun z => by rw [z] at k20; exact absurd k20 (by decide)
          have z5 : ¬ q = 5 := fun z => by rw [z] at k20; exact absurd k20 (by decide)
          exact G_iret C dX10_told_88 (⟨RC_q hR fq, by unfold s_told; rw [hxn, if_neg k8, if_neg z0, if_neg z1, if_neg z2, if_neg z3, if_neg z4, if_neg z5, if_neg c35, if_pos c35_1, cup]; exact ((x_lis01 P up).resolve_left k80).symm⟩)
      by_cases c35_2 : q = 8
      ·
        refine G_tsIn C 89 (8) c35_2 dX10_told_35 (by decide) rfl rfl ?_
        refine G_sipush (v := 1000) C 92 dX10_told_89 rfl rfl ?_
        refine G_aload_n (i := 0) C 93 dX10_told_92 rfl rfl rfl ?_
        refine X10_57g C 96 dX10_told_93 rfl ?_
        refine G_iload_n (i := 1) C 97 dX10_told_96 rfl rfl rfl ?_
        refine G_calli 100 (G_runV C Kc_X9_goes KV_X10_162 (by omega) (lW0 (Or.inl rfl)) (eW _ _ _ (Or.inl rfl)) rfl (c_X9_goes 0 TX nT n l 45 P s fm p up eup (by omega)) rfl rfl rfl (Nat.le_of_ble_eq_true rfl) rfl dX10_told_97) rfl (fun x97 s97 h97 => ?_)
        have fm_1 : cI TX nT n l 45 P s97 := cI_q fm (h97.1.SQ)
        have fq_1 : Fr mQ s s97 := Fr.tr fq (h97.1.SQ)
        refine G_iadd C 101 dX10_told_100 rfl (fun x100 ex100 => ?_)
        have z0 : ¬ q = 0 := fun z => by rw [z] at k20; exact absurd k20 (by decide)
        have z1 : ¬ q = 1 := fun z => by rw [z] at k20; exact absurd k20 (by decide)
        have z2 : ¬ q = 2 := fun z => by rw [z] at k20; exact absurd k20 (by decide)
        have z3 : ¬ q = 3 := fun z => by rw [z] at k20; exact absurd k20 (by decide)
        have z4 : ¬ q = 4 := fun z => by rw [z] at k20; exact absurd k20 (by decide)
        have z5 : ¬ q = 5 := fun z => by rw [z] at k20; exact absurd k20 (by decide)
        exact G_iret C dX10_told_101 (⟨RC_q hR fq_1, by unfold s_told; rw [hxn, if_neg k8, if_neg z0, if_neg z1, if_neg z2, if_neg z3, if_neg z4, if_neg z5, if_neg c35, if_neg c35_1, if_pos c35_2, cup, ex100, h97.2]⟩)
      refine G_tsOut C 102 dX10_told_35 (by
        have e6 := g_ti (k := 6) 6 rfl c35
        have e7 := g_ti (k := 7) 7 rfl c35_1
        have e8 := g_ti (k := 8) 8 rfl c35_2
        omega) rfl ?_
      refine G_bipush (v := (-7)) C 104 dX10_told_102 rfl rfl ?_
      have z0 : ¬ q = 0 := fun z => by rw [z] at k20; exact absurd k20 (by decide)
      have z1 : ¬ q = 1 := fun z => by rw [z] at k20; exact absurd k20 (by decide)
      have z2 : ¬ q = 2 := fun z => by rw [z] at k20; exact absurd k20 (by decide)
      have z3 : ¬ q = 3 := fun z => by rw [z] at k20; exact absurd k20 (by decide)
      have z4 : ¬ q = 4 := fun z => by rw [z] at k20; exact absurd k20 (by decide)
      have z5 : ¬ q = 5 := fun z => by rw [z] at k20; exact absurd k20 (by decide)
      exact G_iret C dX10_told_104 (⟨RC_q hR fq, by unfold s_told; rw [hxn, if_neg k8, if_neg z0, if_neg z1, if_neg z2, if_neg z3, if_neg z4, if_neg z5, if_neg c35, if_neg c35_1, if_neg c35_2]⟩)
    ·
      have k20 := g_neT h17 c20
      obtain ⟨uq, huq, euq⟩ := x_inR (b := 5) k20 rfl (by decide)
      have zuq : uq = 0 ∨ uq = 1 ∨ uq = 2 ∨ uq = 3 ∨ uq = 4 ∨ uq = 5 := by omega
      rcases zuq with rfl | rfl | rfl | rfl | rfl | rfl
      ·
        obtain rfl : q = 0 := euq
        refine G_aload_n (i := 0) C 24 dX10_told_23 rfl rfl rfl ?_
        refine X10_57g C 27 dX10_told_24 rfl ?_
        refine G_iload_n (i := 2) C 28 dX10_told_27 rfl rfl rfl ?_
        refine G_callr 31 (G_runV C Kc_X9_row KV_X10_152 (by omega) (lW0 (Or.inl rfl)) (eW _ _ _ (Or.inl rfl)) rfl (c_X9_row_0 0 45 (Or.inl rfl) s) rfl rfl rfl (Nat.le_of_ble_eq_true rfl) rfl dX10_told_28) rfl (fun q28 s28 h28 => ?_)
        obtain ⟨es28, h28⟩ := h28
        have es28 := es28.symm
        subst es28
        obtain rfl : q28 = 45 + 2 := h28
        refine G_iload_n (i := 1) C 32 dX10_told_31 rfl rfl rfl ?_
        refine G_iald (n := 6) C 33 (lW (Or.inl rfl) (by decide)) (eW2 _ _ _ (Or.inl rfl)) (up) eup (by omega) (by decide) dX10_told_32 rfl (fun x32 ex32 => ?_)
        have Sx32 : x32 = P 2 (up) := ex32.trans (congrFun (congrFun fm.2.1 2) _)
        exact G_iret C dX10_told_33 (⟨RC_q hR fq, by unfold s_told; rw [hxn, if_neg k8, if_pos rfl, cup]; exact Sx32⟩)
      ·
        obtain rfl : q = 1 := euq
        refine G_aload_n (i := 0) C 24 dX10_told_23 rfl rfl rfl ?_
        refine X10_57g C 27 dX10_told_24 rfl ?_
        refine G_iload_n (i := 2) C 28 dX10_told_27 rfl rfl rfl ?_
        refine G_callr 31 (G_runV C Kc_X9_row KV_X10_152 (by omega) (lW0 (Or.inl rfl)) (eW _ _ _ (Or.inl rfl)) rfl (c_X9_row_1 0 45 (Or.inl rfl) s) rfl rfl rfl (Nat.le_of_ble_eq_true rfl) rfl dX10_told_28) rfl (fun q28 s28 h28 => ?_)
        obtain ⟨es28, h28⟩ := h28
        have es28 := es28.symm
        subst es28
        obtain rfl : q28 = 45 + 3 := h28
        refine G_iload_n (i := 1) C 32 dX10_told_31 rfl rfl rfl ?_
        refine G_iald (n := 6) C 33 (lW (Or.inl rfl) (by decide)) (eW3 _ _ _ (Or.inl rfl)) (up) eup (by omega) (by decide) dX10_told_32 rfl (fun x32 ex32 => ?_)
        have Sx32 : x32 = P 3 (up) := ex32.trans (congrFun (congrFun fm.2.1 3) _)
        obtain ⟨mx32, hmx32, emx32⟩ := (cI_p fm (p := up) (by omega)).2.1
        exact G_iret C dX10_told_33 (⟨RC_q hR fq, by unfold s_told; rw [hxn, if_neg k8, if_neg (by decide), if_pos rfl, cup]; exact Sx32⟩)
      ·
        obtain rfl : q = 2 := euq
        refine G_aload_n (i := 0) C 24 dX10_told_23 rfl rfl rfl ?_
        refine X10_57g C 27 dX10_told_24 rfl ?_
        refine G_iload_n (i := 2) C 28 dX10_told_27 rfl rfl rfl ?_
        refine G_callr 31 (G_runV C Kc_X9_row KV_X10_152 (by omega) (lW0 (Or.inl rfl)) (eW _ _ _ (Or.inl rfl)) rfl (c_X9_row_2 0 45 (Or.inl rfl) s) rfl rfl rfl (Nat.le_of_ble_eq_true rfl) rfl dX10_told_28) rfl (fun q28 s28 h28 => ?_)
        obtain ⟨es28, h28⟩ := h28
        have es28 := es28.symm
        subst es28
        obtain rfl : q28 = 45 + 4 := h28
        refine G_iload_n (i := 1) C 32 dX10_told_31 rfl rfl rfl ?_
        refine G_iald (n := 6) C 33 (lW (Or.inl rfl) (by decide)) (eW4 _ _ _ (Or.inl rfl)) (up) eup (by omega) (by decide) dX10_told_32 rfl (fun x32 ex32 => ?_)
        have Sx32 : x32 = P 4 (up) := ex32.trans (congrFun (congrFun fm.2.1 4) _)
        obtain ⟨mx32, hmx32, emx32⟩ := (cI_p fm (p := up) (by omega)).2.2
        exact G_iret C dX10_told_33 (⟨RC_q hR fq, by unfold s_told; rw [hxn, if_neg k8, if_neg (by decide), if_neg (by decide), if_pos rfl, cup]; exact Sx32⟩)
      ·
        obtain rfl : q = 3 := euq
        refine G_aload_n (i := 0) C 24 dX10_told_23 rfl rfl rfl ?_
        refine X10_57g C 27 dX10_told_24 rfl ?_
        refine G_iload_n (i := 2) C 28 dX10_told_27 rfl rfl rfl ?_
        refine G_callr 31 (G_runV C Kc_X9_row KV_X10_152 (by omega) (lW0 (Or.inl rfl)) (eW _ _ _ (Or.inl rfl)) rfl (c_X9_row_3 0 45 (Or.inl rfl) s) rfl rfl rfl (Nat.le_of_ble_eq_true rfl) rfl dX10_told_28) rfl (fun q28 s28 h28 => ?_)
        obtain ⟨es28, h28⟩ := h28
        have es28 := es28.symm
        subst es28
        obtain rfl : q28 = 45 + 5 := h28
        refine G_iload_n (i := 1) C 32 dX10_told_31 rfl rfl rfl ?_
        refine G_iald (n := 6) C 33 (lW (Or.inl rfl) (by decide)) (eW5 _ _ _ (Or.inl rfl)) (up) eup (by omega) (by decide) dX10_told_32 rfl (fun x32 ex32 => ?_)
        have Sx32 : x32 = P 5 (up) := ex32.trans (congrFun (congrFun fm.2.1 5) _)
        exact G_iret C dX10_told_33 (⟨RC_q hR fq, by unfold s_told; rw [hxn, if_neg k8, if_neg (by decide), if_neg (by decide), if_neg (by decide), if_pos rfl, cup]; exact Sx32⟩)
      ·
        obtain rfl : q = 4 := euq
        refine G_aload_n (i := 0) C 24 dX10_told_23 rfl rfl rfl ?_
        refine X10_57g C 27 dX10_told_24 rfl ?_
        refine G_iload_n (i := 2) C 28 dX10_told_27 rfl rfl rfl ?_
        refine G_callr 31 (G_runV C Kc_X9_row KV_X10_152 (by omega) (lW0 (Or.inl rfl)) (eW _ _ _ (Or.inl rfl)) rfl (c_X9_row_4 0 45 (Or.inl rfl) s) rfl rfl rfl (Nat.le_of_ble_eq_true rfl) rfl dX10_told_28) rfl (fun q28 s28 h28 => ?_)
        obtain ⟨es28, h28⟩ := h28
        have es28 := es28.symm
        subst es28
        obtain rfl : q28 = 45 + 6 := h28
        refine G_iload_n (i := 1) C 32 dX10_told_31 rfl rfl rfl ?_
        refine G_iald (n := 6) C 33 (lW (Or.inl rfl) (by decide)) (eW6 _ _ _ (Or.inl rfl)) (up) eup (by omega) (by decide) dX10_told_32 rfl (fun x32 ex32 => ?_)
        have Sx32 : x32 = P 6 (up) := ex32.trans (cI_6 fm (by omega))
        obtain ⟨kdx32, hkdx32, ekdx32⟩ := (cI_p fm (p := up) (by omega)).1
        exact G_iret C dX10_told_33 (⟨RC_q hR fq, by unfold s_told; rw [hxn, if_neg k8, if_neg (by decide), if_neg (by decide), if_neg (by decide), if_neg (by decide), if_pos rfl, cup]; exact Sx32⟩)
      ·
        obtain rfl : q = 5 := euq
        refine G_aload_n (i := 0) C 24 dX10_told_23 rfl rfl rfl ?_
        refine X10_57g C 27 dX10_told_24 rfl ?_
        refine G_iload_n (i := 2) C 28 dX10_told_27 rfl rfl rfl ?_
        refine G_callr 31 (G_runV C Kc_X9_row KV_X10_152 (by omega) (lW0 (Or.inl rfl)) (eW _ _ _ (Or.inl rfl)) rfl (c_X9_row_5 0 45 (Or.inl rfl) s) rfl rfl rfl (Nat.le_of_ble_eq_true rfl) rfl dX10_told_28) rfl (fun q28 s28 h28 => ?_)
        obtain ⟨es28, h28⟩ := h28
        have es28 := es28.symm
        subst es28
        obtain rfl : q28 = 45 + 7 := h28
        refine G_iload_n (i := 1) C 32 dX10_told_31 rfl rfl rfl ?_
        refine G_iald (n := 6) C 33 (lW (Or.inl rfl) (by decide)) (eW7 _ _ _ (Or.inl rfl)) (up) eup (by omega) (by decide) dX10_told_32 rfl (fun x32 ex32 => ?_)
        have Sx32 : x32 = P 7 (up) := ex32.trans (cI_7 fm (by omega))
        exact G_iret C dX10_told_33 (⟨RC_q hR fq, by unfold s_told; rw [hxn, if_neg k8, if_neg (by decide), if_neg (by decide), if_neg (by decide), if_neg (by decide), if_neg (by decide), if_pos rfl, cup]; exact Sx32⟩)
  ·
    have k8 := h5.symm.trans c8
    refine G_bipush (v := (-5)) C 13 dX10_told_11 rfl rfl ?_
    exact G_iret C dX10_told_13 (⟨RC_q hR fq, by unfold s_told; rw [hxn, if_pos k8]⟩)
theorem dX10_ring_0 : decode cX10_ring 0 = .ok (.iload_n 1, 1) := by decide +kernel
theorem dX10_ring_1 : decode cX10_ring 1 = .ok (.iconst 0, 1) := by decide +kernel
theorem dX10_ring_2 : decode cX10_ring 2 = .ok (.bipush 8, 2) := by decide +kernel
theorem dX10_ring_4 : decode cX10_ring 4 = .ok (.invokestatic 112, 3) := by decide +kernel
theorem dX10_ring_7 : decode cX10_ring 7 = .ok (.ifCond .ne 6, 3) := by decide +kernel
theorem dX10_ring_10 : decode cX10_ring 10 = .ok (.bipush (-5), 2) := by decide +kernel
theorem dX10_ring_12 : decode cX10_ring 12 = .ok (.ireturn, 1) := by decide +kernel
theorem dX10_ring_13 : decode cX10_ring 13 = .ok (.iload_n 2, 1) := by decide +kernel
theorem dX10_ring_14 : decode cX10_ring 14 = .ok (.tableswitch 76 0 3 #[30, 39, 48, 60], 30) := by decide +kernel
theorem dX10_ring_44 : decode cX10_ring 44 = .ok (.aload_n 0, 1) := by decide +kernel
theorem dX10_ring_45 : decode cX10_ring 45 = .ok (.getfield 57, 3) := by decide +kernel
theorem dX10_ring_48 : decode cX10_ring 48 = .ok (.iload_n 1, 1) := by decide +kernel
theorem dX10_ring_49 : decode cX10_ring 49 = .ok (.invokevirtual 165, 3) := by decide +kernel
theorem dX10_ring_52 : decode cX10_ring 52 = .ok (.ireturn, 1) := by decide +kernel
theorem dX10_ring_53 : decode cX10_ring 53 = .ok (.aload_n 0, 1) := by decide +kernel
theorem dX10_ring_54 : decode cX10_ring 54 = .ok (.getfield 57, 3) := by decide +kernel
theorem dX10_ring_57 : decode cX10_ring 57 = .ok (.iload_n 1, 1) := by decide +kernel
theorem dX10_ring_58 : decode cX10_ring 58 = .ok (.invokevirtual 168, 3) := by decide +kernel
theorem dX10_ring_61 : decode cX10_ring 61 = .ok (.ireturn, 1) := by decide +kernel
theorem dX10_ring_62 : decode cX10_ring 62 = .ok (.aload_n 0, 1) := by decide +kernel
theorem dX10_ring_63 : decode cX10_ring 63 = .ok (.getfield 57, 3) := by decide +kernel
theorem dX10_ring_66 : decode cX10_ring 66 = .ok (.iload_n 1, 1) := by decide +kernel
theorem dX10_ring_67 : decode cX10_ring 67 = .ok (.sipush 1023, 3) := by decide +kernel
theorem dX10_ring_70 : decode cX10_ring 70 = .ok (.invokevirtual 128, 3) := by decide +kernel
theorem dX10_ring_73 : decode cX10_ring 73 = .ok (.ireturn, 1) := by decide +kernel
theorem dX10_ring_74 : decode cX10_ring 74 = .ok (.aload_n 0, 1) := by decide +kernel
theorem dX10_ring_75 : decode cX10_ring 75 = .ok (.getfield 57, 3) := by decide +kernel
theorem dX10_ring_78 : decode cX10_ring 78 = .ok (.iload_n 1, 1) := by decide +kernel
theorem dX10_ring_79 : decode cX10_ring 79 = .ok (.aload_n 0, 1) := by decide +kernel
theorem dX10_ring_80 : decode cX10_ring 80 = .ok (.getfield 57, 3) := by decide +kernel
theorem dX10_ring_83 : decode cX10_ring 83 = .ok (.getfield 100, 3) := by decide +kernel
theorem dX10_ring_86 : decode cX10_ring 86 = .ok (.invokevirtual 128, 3) := by decide +kernel
theorem dX10_ring_89 : decode cX10_ring 89 = .ok (.ireturn, 1) := by decide +kernel
theorem dX10_ring_90 : decode cX10_ring 90 = .ok (.bipush (-7), 2) := by decide +kernel
theorem dX10_ring_92 : decode cX10_ring 92 = .ok (.ireturn, 1) := by decide +kernel
set_option maxHeartbeats 4000000 in
set_option maxRecDepth 100000 in
theorem c_X10_ring (d : Nat) (TX : gTX) (P B s : gS) (hR0 : RC TX P B s) (c q : Int32) : gMt SC yX10_ring cX10_ring 3 (some .int) (d + 8) (fun ad => [.ref (ad 0), .int c, .int q]) s (gQi SC (fun r s' => RC TX P B s' ∧ r = s_ring TX P c q)) := by
  obtain ⟨nT, n, l, hR⟩ := hR0
  have hI := hR.1
  have hn6 : n ≤ 6 := hI.2.2.1.2.1
  have hl6 : l < 6 := cI_l6 hI
  have hxn : x_n P = n := x_nOf hI.2.2.1.1 hn6
  have hbI := hR.2.2
  refine gMt_of SC_ok (by decide +kernel) (fun ad => [some (.ref (ad 0)), some (.int c), some (.int q)]) (fun _ => rfl) (fun _ => rfl) (fun _ => Nat.le_of_ble_eq_true rfl) (fun E C0 => ?_)
  have C : gCx SC E RX10 cX10_ring 3 (some .int) (d + 8) := C0
  have fm : cI TX nT n l 45 P s := hI
  have fq : Fr mQ s s := Fr.rf
  refine G_iload_n (i := 1) C 1 dX10_ring_0 rfl rfl rfl ?_
  refine G_iconst (v := 0) C 2 dX10_ring_1 rfl rfl ?_
  refine G_bipush (v := 8) C 4 dX10_ring_2 rfl rfl ?_
  refine G_calli 7 (G_runS C Kc_X10_within KS_X10_112 (by omega) (c_X10_within 0 c 0 8 s) rfl rfl (Nat.le_of_ble_eq_true rfl) rfl dX10_ring_4) rfl (fun x4 s4 h4 => ?_)
  obtain ⟨es4, h4⟩ := h4
  have es4 := es4.symm
  subst es4
  refine G_if_ne C 13 10 dX10_ring_7 rfl rfl (fun c7 => ?_) (fun c7 => ?_)
  ·
    have k7 := g_neT h4 c7
    refine G_iload_n (i := 2) C 14 dX10_ring_13 rfl rfl rfl ?_
    by_cases c14 : q = 0
    ·
      refine G_tsIn C 44 (0) c14 dX10_ring_14 (by decide) rfl rfl ?_
      refine G_aload_n (i := 0) C 45 dX10_ring_44 rfl rfl rfl ?_
      refine X10_57g C 48 dX10_ring_45 rfl ?_
      refine G_iload_n (i := 1) C 49 dX10_ring_48 rfl rfl rfl ?_
      refine G_calli 52 (G_runV C Kc_X9_peopleAt KV_X10_165 (by omega) (lW0 (Or.inl rfl)) (eW _ _ _ (Or.inl rfl)) rfl (c_X9_peopleAt 0 TX nT n l 45 P s fm c) rfl rfl rfl (Nat.le_of_ble_eq_true rfl) rfl dX10_ring_49) rfl (fun x49 s49 h49 => ?_)
      obtain ⟨es49, h49⟩ := h49
      have es49 := es49.symm
      subst es49
      exact G_iret C dX10_ring_52 (⟨RC_q hR fq, (h49).trans (by unfold s_ring; rw [if_neg k7, if_pos c14, hxn])⟩)
    by_cases c14_1 : q = 1
    ·
      refine G_tsIn C 53 (1) c14_1 dX10_ring_14 (by decide) rfl rfl ?_
      refine G_aload_n (i := 0) C 54 dX10_ring_53 rfl rfl rfl ?_
      refine X10_57g C 57 dX10_ring_54 rfl ?_
      refine G_iload_n (i := 1) C 58 dX10_ring_57 rfl rfl rfl ?_
      refine G_calli 61 (G_runV C Kc_X9_listenersAt KV_X10_168 (by omega) (lW0 (Or.inl rfl)) (eW _ _ _ (Or.inl rfl)) rfl (c_X9_listenersAt 0 TX nT n l 45 P s fm c) rfl rfl rfl (Nat.le_of_ble_eq_true rfl) rfl dX10_ring_58) rfl (fun x58 s58 h58 => ?_)
      obtain ⟨es58, h58⟩ := h58
      have es58 := es58.symm
      subst es58
      exact G_iret C dX10_ring_61 (⟨RC_q hR fq, (h58).trans (by unfold s_ring; rw [if_neg k7, if_neg c14, if_pos c14_1, hxn])⟩)
    by_cases c14_2 : q = 2
    ·
      refine G_tsIn C 62 (2) c14_2 dX10_ring_14 (by decide) rfl rfl ?_
      refine G_aload_n (i := 0) C 63 dX10_ring_62 rfl rfl rfl ?_
      refine X10_57g C 66 dX10_ring_63 rfl ?_
      refine G_iload_n (i := 1) C 67 dX10_ring_66 rfl rfl rfl ?_
      refine G_sipush (v := 1023) C 70 dX10_ring_67 rfl rfl ?_
      refine G_calli 73 (G_runV C Kc_X9_mayAt KV_X10_128 (by omega) (lW0 (Or.inl rfl)) (eW _ _ _ (Or.inl rfl)) rfl (c_X9_mayAt 0 TX nT n l 45 P s fm c 1023 (⟨1023, by decide, rfl⟩)) rfl rfl rfl (Nat.le_of_ble_eq_true rfl) rfl dX10_ring_70) rfl (fun x70 s70 h70 => ?_)
      have fm_1 : cI TX nT n l 45 P s70 := cI_q fm (h70.1.SQ)
      have fq_1 : Fr mQ s s70 := Fr.tr fq (h70.1.SQ)
      exact G_iret C dX10_ring_73 (⟨RC_q hR fq_1, (h70.2).trans (by unfold s_ring; rw [if_neg k7, if_neg c14, if_neg c14_1, if_pos c14_2])⟩)
    by_cases c14_3 : q = 3
    ·
      refine G_tsIn C 74 (3) c14_3 dX10_ring_14 (by decide) rfl rfl ?_
      refine G_aload_n (i := 0) C 75 dX10_ring_74 rfl rfl rfl ?_
      refine X10_57g C 78 dX10_ring_75 rfl ?_
      refine G_iload_n (i := 1) C 79 dX10_ring_78 rfl rfl rfl ?_
      refine G_aload_n (i := 0) C 80 dX10_ring_79 rfl rfl rfl ?_
      refine X10_57g C 83 dX10_ring_80 rfl ?_
      refine X10_100g C (Or.inl rfl) 86 dX10_ring_83 rfl (fun x83 ex83 => ?_)
      have Sx83 : x83 = P 0 2 := ex83.trans (cI_v fm 0 2)
      obtain ⟨mx83, hmx83, emx83⟩ := fm.2.2.1.2.2.2.2.2.2.2.1
      refine G_calli 89 (G_runV C Kc_X9_mayAt KV_X10_128 (by omega) (lW0 (Or.inl rfl)) (eW _ _ _ (Or.inl rfl)) rfl (c_X9_mayAt 0 TX nT n l 45 P s fm c x83 (⟨_, hmx83, Sx83.trans emx83⟩)) rfl rfl rfl (Nat.le_of_ble_eq_true rfl) rfl dX10_ring_86) rfl (fun x86 s86 h86 => ?_)
      have fm_1 : cI TX nT n l 45 P s86 := cI_q fm (h86.1.SQ)
      have fq_1 : Fr mQ s s86 := Fr.tr fq (h86.1.SQ)
      exact G_iret C dX10_ring_89 (⟨RC_q hR fq_1, (h86.2).trans (by unfold s_ring; rw [if_neg k7, if_neg c14, if_neg c14_1, if_neg c14_2, if_pos c14_3, Sx83])⟩)
    refine G_tsOut C 90 dX10_ring_14 (by
      have e0 := g_ti (k := 0) 0 rfl c14
      have e1 := g_ti (k := 1) 1 rfl c14_1
      have e2 := g_ti (k := 2) 2 rfl c14_2
      have e3 := g_ti (k := 3) 3 rfl c14_3
      omega) rfl ?_
    refine G_bipush (v := (-7)) C 92 dX10_ring_90 rfl rfl ?_
    exact G_iret C dX10_ring_92 (⟨RC_q hR fq, by unfold s_ring; rw [if_neg k7, if_neg c14, if_neg c14_1, if_neg c14_2, if_neg c14_3]⟩)
  ·
    have k7 := h4.symm.trans c7
    refine G_bipush (v := (-5)) C 12 dX10_ring_10 rfl rfl ?_
    exact G_iret C dX10_ring_12 (⟨RC_q hR fq, by unfold s_ring; rw [if_pos k7]⟩)
theorem dX10_hour_0 : decode cX10_hour 0 = .ok (.aload_n 0, 1) := by decide +kernel
theorem dX10_hour_1 : decode cX10_hour 1 = .ok (.getfield 57, 3) := by decide +kernel
theorem dX10_hour_4 : decode cX10_hour 4 = .ok (.getfield 97, 3) := by decide +kernel
theorem dX10_hour_7 : decode cX10_hour 7 = .ok (.sipush 9999, 3) := by decide +kernel
theorem dX10_hour_10 : decode cX10_hour 10 = .ok (.if_icmp .ne 8, 3) := by decide +kernel
theorem dX10_hour_13 : decode cX10_hour 13 = .ok (.bipush (-3), 2) := by decide +kernel
theorem dX10_hour_15 : decode cX10_hour 15 = .ok (.goto 10, 3) := by decide +kernel
theorem dX10_hour_18 : decode cX10_hour 18 = .ok (.aload_n 0, 1) := by decide +kernel
theorem dX10_hour_19 : decode cX10_hour 19 = .ok (.getfield 57, 3) := by decide +kernel
theorem dX10_hour_22 : decode cX10_hour 22 = .ok (.invokevirtual 171, 3) := by decide +kernel
theorem dX10_hour_25 : decode cX10_hour 25 = .ok (.ireturn, 1) := by decide +kernel
set_option maxHeartbeats 4000000 in
set_option maxRecDepth 100000 in
theorem c_X10_hour (d : Nat) (TX : gTX) (P B s : gS) (hR0 : RC TX P B s) : gMt SC yX10_hour cX10_hour 1 (some .int) (d + 9) (fun ad => [.ref (ad 0)]) s (gQi SC (fun r s' => RC TX (s_hoP TX P) B s' ∧ r = s_hoR TX P)) := by
  obtain ⟨nT, n, l, hR⟩ := hR0
  have hI := hR.1
  have hn6 : n ≤ 6 := hI.2.2.1.2.1
  have hl6 : l < 6 := cI_l6 hI
  have hxn : x_n P = n := x_nOf hI.2.2.1.1 hn6
  have hbI := hR.2.2
  refine gMt_of SC_ok (by decide +kernel) (fun ad => [some (.ref (ad 0))]) (fun _ => rfl) (fun _ => rfl) (fun _ => Nat.le_of_ble_eq_true rfl) (fun E C0 => ?_)
  have C : gCx SC E RX10 cX10_hour 1 (some .int) (d + 9) := C0
  have i : cI TX nT n l 45 P s := hI
  have f : Fr (mW 45) s s := Fr.rf
  refine G_aload_n (i := 0) C 1 dX10_hour_0 rfl rfl rfl ?_
  refine X10_57g C 4 dX10_hour_1 rfl ?_
  refine X10_97g C (Or.inl rfl) 7 dX10_hour_4 rfl (fun x4 ex4 => ?_)
  have Sx4 : x4 = P 0 0 := ex4.trans (cI_v i 0 0)
  refine G_sipush (v := 9999) C 10 dX10_hour_7 rfl rfl ?_
  refine G_icmp_ne C 18 13 dX10_hour_10 rfl rfl (fun c10 => ?_) (fun c10 => ?_)
  ·
    refine G_aload_n (i := 0) C 19 dX10_hour_18 rfl rfl rfl ?_
    refine X10_57g C 22 dX10_hour_19 rfl ?_
    refine G_calli 25 (G_runV C Kc_X9_pass KV_X10_171 (by omega) (lW0 (Or.inl rfl)) (eW _ _ _ (Or.inl rfl)) rfl (c_X9_pass 0 TX nT n l 45 P s i) rfl rfl rfl (Nat.le_of_ble_eq_true rfl) rfl dX10_hour_22) rfl (fun x22 s22 h22 => ?_)
    have i_1 : cI TX nT n l 45 (x_pass TX P) s22 := h22.2.1
    have f_1 : Fr (mW 45) s s22 := Fr.tr f h22.1
    exact G_iret C dX10_hour_25 (⟨by unfold s_hoP; rw [if_neg (fun z => c10 (Sx4.trans z))]; exact RC_up hR h22.2.1 f_1 (x_pass_a TX P (by decide) (by decide) (by decide)) (x_pass_a TX P (by decide) (by decide) (by decide)) (eI_of hbI.2.2.2.2.2.1 (x_pass_a TX P (by decide) (by decide) (by decide))), h22.2.2.trans (by unfold s_hoR; rw [if_neg (fun z => c10 (Sx4.trans z))])⟩)
  ·
    refine G_bipush (v := (-3)) C 15 dX10_hour_13 rfl rfl ?_
    refine G_goto C 25 dX10_hour_15 rfl ?_
    exact G_iret C dX10_hour_25 (⟨by unfold s_hoP; rw [if_pos (Sx4.symm.trans c10)]; exact ⟨nT, n, l, hR⟩, by unfold s_hoR; rw [if_pos (Sx4.symm.trans c10)]⟩)
theorem dX10_run_0 : decode cX10_run 0 = .ok (.iload_n 2, 1) := by decide +kernel
theorem dX10_run_1 : decode cX10_run 1 = .ok (.iconst 0, 1) := by decide +kernel
theorem dX10_run_2 : decode cX10_run 2 = .ok (.iconst 2, 1) := by decide +kernel
theorem dX10_run_3 : decode cX10_run 3 = .ok (.invokestatic 112, 3) := by decide +kernel
theorem dX10_run_6 : decode cX10_run 6 = .ok (.ifCond .ne 31, 3) := by decide +kernel
theorem dX10_run_9 : decode cX10_run 9 = .ok (.aload_n 0, 1) := by decide +kernel
theorem dX10_run_10 : decode cX10_run 10 = .ok (.getfield 57, 3) := by decide +kernel
theorem dX10_run_13 : decode cX10_run 13 = .ok (.iload_n 2, 1) := by decide +kernel
theorem dX10_run_14 : decode cX10_run 14 = .ok (.bipush 10, 2) := by decide +kernel
theorem dX10_run_16 : decode cX10_run 16 = .ok (.isub, 1) := by decide +kernel
theorem dX10_run_17 : decode cX10_run 17 = .ok (.invokevirtual 139, 3) := by decide +kernel
theorem dX10_run_20 : decode cX10_run 20 = .ok (.ifCond .ne 17, 3) := by decide +kernel
theorem dX10_run_23 : decode cX10_run 23 = .ok (.aload_n 0, 1) := by decide +kernel
theorem dX10_run_24 : decode cX10_run 24 = .ok (.getfield 57, 3) := by decide +kernel
theorem dX10_run_27 : decode cX10_run 27 = .ok (.iload_n 2, 1) := by decide +kernel
theorem dX10_run_28 : decode cX10_run 28 = .ok (.bipush 20, 2) := by decide +kernel
theorem dX10_run_30 : decode cX10_run 30 = .ok (.isub, 1) := by decide +kernel
theorem dX10_run_31 : decode cX10_run 31 = .ok (.invokevirtual 139, 3) := by decide +kernel
theorem dX10_run_34 : decode cX10_run 34 = .ok (.ifCond .eq 7, 3) := by decide +kernel
theorem dX10_run_37 : decode cX10_run 37 = .ok (.iconst 1, 1) := by decide +kernel
theorem dX10_run_38 : decode cX10_run 38 = .ok (.goto 4, 3) := by decide +kernel
theorem dX10_run_41 : decode cX10_run 41 = .ok (.iconst 0, 1) := by decide +kernel
theorem dX10_run_42 : decode cX10_run 42 = .ok (.istore_n 3, 1) := by decide +kernel
theorem dX10_run_43 : decode cX10_run 43 = .ok (.iload_n 1, 1) := by decide +kernel
theorem dX10_run_44 : decode cX10_run 44 = .ok (.iconst 0, 1) := by decide +kernel
theorem dX10_run_45 : decode cX10_run 45 = .ok (.bipush 40, 2) := by decide +kernel
theorem dX10_run_47 : decode cX10_run 47 = .ok (.invokestatic 112, 3) := by decide +kernel
theorem dX10_run_50 : decode cX10_run 50 = .ok (.ifCond .eq 7, 3) := by decide +kernel
theorem dX10_run_53 : decode cX10_run 53 = .ok (.iload_n 3, 1) := by decide +kernel
theorem dX10_run_54 : decode cX10_run 54 = .ok (.ifCond .ne 6, 3) := by decide +kernel
theorem dX10_run_57 : decode cX10_run 57 = .ok (.bipush (-2), 2) := by decide +kernel
theorem dX10_run_59 : decode cX10_run 59 = .ok (.ireturn, 1) := by decide +kernel
theorem dX10_run_60 : decode cX10_run 60 = .ok (.aload_n 0, 1) := by decide +kernel
theorem dX10_run_61 : decode cX10_run 61 = .ok (.getfield 61, 3) := by decide +kernel
theorem dX10_run_64 : decode cX10_run 64 = .ok (.aload_n 0, 1) := by decide +kernel
theorem dX10_run_65 : decode cX10_run 65 = .ok (.getfield 57, 3) := by decide +kernel
theorem dX10_run_68 : decode cX10_run 68 = .ok (.invokevirtual 174, 3) := by decide +kernel
theorem dX10_run_71 : decode cX10_run 71 = .ok (.aload_n 0, 1) := by decide +kernel
theorem dX10_run_72 : decode cX10_run 72 = .ok (.getfield 61, 3) := by decide +kernel
theorem dX10_run_75 : decode cX10_run 75 = .ok (.iload_n 1, 1) := by decide +kernel
theorem dX10_run_76 : decode cX10_run 76 = .ok (.invokevirtual 178, 3) := by decide +kernel
theorem dX10_run_79 : decode cX10_run 79 = .ok (.istore 4, 2) := by decide +kernel
theorem dX10_run_81 : decode cX10_run 81 = .ok (.iload_n 2, 1) := by decide +kernel
theorem dX10_run_82 : decode cX10_run 82 = .ok (.tableswitch 45 0 2 #[26, 34, 37], 26) := by decide +kernel
theorem dX10_run_108 : decode cX10_run 108 = .ok (.aload_n 0, 1) := by decide +kernel
theorem dX10_run_109 : decode cX10_run 109 = .ok (.getfield 61, 3) := by decide +kernel
theorem dX10_run_112 : decode cX10_run 112 = .ok (.getfield 100, 3) := by decide +kernel
theorem dX10_run_115 : decode cX10_run 115 = .ok (.ireturn, 1) := by decide +kernel
theorem dX10_run_116 : decode cX10_run 116 = .ok (.iload 4, 2) := by decide +kernel
theorem dX10_run_118 : decode cX10_run 118 = .ok (.ireturn, 1) := by decide +kernel
theorem dX10_run_119 : decode cX10_run 119 = .ok (.aload_n 0, 1) := by decide +kernel
theorem dX10_run_120 : decode cX10_run 120 = .ok (.getfield 61, 3) := by decide +kernel
theorem dX10_run_123 : decode cX10_run 123 = .ok (.invokevirtual 181, 3) := by decide +kernel
theorem dX10_run_126 : decode cX10_run 126 = .ok (.ireturn, 1) := by decide +kernel
theorem dX10_run_127 : decode cX10_run 127 = .ok (.aload_n 0, 1) := by decide +kernel
theorem dX10_run_128 : decode cX10_run 128 = .ok (.getfield 57, 3) := by decide +kernel
theorem dX10_run_131 : decode cX10_run 131 = .ok (.iload_n 2, 1) := by decide +kernel
theorem dX10_run_132 : decode cX10_run 132 = .ok (.bipush 10, 2) := by decide +kernel
theorem dX10_run_134 : decode cX10_run 134 = .ok (.isub, 1) := by decide +kernel
theorem dX10_run_135 : decode cX10_run 135 = .ok (.invokevirtual 139, 3) := by decide +kernel
theorem dX10_run_138 : decode cX10_run 138 = .ok (.ifCond .eq 18, 3) := by decide +kernel
theorem dX10_run_141 : decode cX10_run 141 = .ok (.aload_n 0, 1) := by decide +kernel
theorem dX10_run_142 : decode cX10_run 142 = .ok (.getfield 61, 3) := by decide +kernel
theorem dX10_run_145 : decode cX10_run 145 = .ok (.getfield 184, 3) := by decide +kernel
theorem dX10_run_148 : decode cX10_run 148 = .ok (.iload_n 2, 1) := by decide +kernel
theorem dX10_run_149 : decode cX10_run 149 = .ok (.bipush 10, 2) := by decide +kernel
theorem dX10_run_151 : decode cX10_run 151 = .ok (.isub, 1) := by decide +kernel
theorem dX10_run_152 : decode cX10_run 152 = .ok (.iaload, 1) := by decide +kernel
theorem dX10_run_153 : decode cX10_run 153 = .ok (.goto 15, 3) := by decide +kernel
theorem dX10_run_156 : decode cX10_run 156 = .ok (.aload_n 0, 1) := by decide +kernel
theorem dX10_run_157 : decode cX10_run 157 = .ok (.getfield 61, 3) := by decide +kernel
theorem dX10_run_160 : decode cX10_run 160 = .ok (.getfield 187, 3) := by decide +kernel
theorem dX10_run_163 : decode cX10_run 163 = .ok (.iload_n 2, 1) := by decide +kernel
theorem dX10_run_164 : decode cX10_run 164 = .ok (.bipush 20, 2) := by decide +kernel
theorem dX10_run_166 : decode cX10_run 166 = .ok (.isub, 1) := by decide +kernel
theorem dX10_run_167 : decode cX10_run 167 = .ok (.iaload, 1) := by decide +kernel
theorem dX10_run_168 : decode cX10_run 168 = .ok (.ireturn, 1) := by decide +kernel
set_option maxHeartbeats 4000000 in
set_option maxRecDepth 100000 in
theorem c_X10_run (d : Nat) (TX : gTX) (P B s : gS) (hR0 : RC TX P B s) (m q : Int32) : gMt SC yX10_run cX10_run 5 (some .int) (d + 10) (fun ad => [.ref (ad 0), .int m, .int q]) s (gQi SC (fun r s' => RC TX P B s' ∧ r = s_run TX P m q)) := by
  obtain ⟨nT, n, l, hR⟩ := hR0
  have hI := hR.1
  have hn6 : n ≤ 6 := hI.2.2.1.2.1
  have hl6 : l < 6 := cI_l6 hI
  have hxn : x_n P = n := x_nOf hI.2.2.1.1 hn6
  have hbI := hR.2.2
  refine gMt_of SC_ok (by decide +kernel) (fun ad => [some (.ref (ad 0)), some (.int m), some (.int q), none, none]) (fun _ => rfl) (fun _ => rfl) (fun _ => Nat.le_of_ble_eq_true rfl) (fun E C0 => ?_)
  have C : gCx SC E RX10 cX10_run 5 (some .int) (d + 10) := C0
  have fm : cI TX nT n l 45 P s := hI
  have fq : Fr mQ s s := Fr.rf
  refine G_iload_n (i := 2) C 1 dX10_run_0 rfl rfl rfl ?_
  refine G_iconst (v := 0) C 2 dX10_run_1 rfl rfl ?_
  refine G_iconst (v := 2) C 3 dX10_run_2 rfl rfl ?_
  refine G_calli 6 (G_runS C Kc_X10_within KS_X10_112 (by omega) (c_X10_within 0 q 0 2 s) rfl rfl (Nat.le_of_ble_eq_true rfl) rfl dX10_run_3) rfl (fun x3 s3 h3 => ?_)
  obtain ⟨es3, h3⟩ := h3
  have es3 := es3.symm
  subst es3
  refine G_if_ne C 37 9 dX10_run_6 rfl rfl (fun c6 => ?_) (fun c6 => ?_)
  ·
    have k6 := g_neT h3 c6
    refine G_iconst (v := 1) C 38 dX10_run_37 rfl rfl ?_
    refine G_goto C 42 dX10_run_38 rfl ?_
    refine G_istore_n (i := 3) (L' := [some (.ref (e_ad E 0)), some (.int m), some (.int q), some (.int 1), none]) C 43 dX10_run_42 rfl rfl (Nat.le_of_ble_eq_true rfl) rfl rfl ?_
    refine G_iload_n (i := 1) C 44 dX10_run_43 rfl rfl rfl ?_
    refine G_iconst (v := 0) C 45 dX10_run_44 rfl rfl ?_
    refine G_bipush (v := 40) C 47 dX10_run_45 rfl rfl ?_
    refine G_calli 50 (G_runS C Kc_X10_within KS_X10_112 (by omega) (c_X10_within 0 m 0 40 s) rfl rfl (Nat.le_of_ble_eq_true rfl) rfl dX10_run_47) rfl (fun x47 s47 h47 => ?_)
    obtain ⟨es47, h47⟩ := h47
    have es47 := es47.symm
    subst es47
    refine G_if_eq C 57 53 dX10_run_50 rfl rfl (fun c50 => ?_) (fun c50 => ?_)
    ·
      have k50 := h47.symm.trans c50
      refine G_bipush (v := (-2)) C 59 dX10_run_57 rfl rfl ?_
      exact G_iret C dX10_run_59 (⟨RC_q hR fq, by unfold s_run s_ruOk; rw [if_pos k50, if_pos rfl]⟩)
    ·
      have k50 := g_neT h47 c50
      obtain ⟨um, hum, eum⟩ := x_inR (b := 40) k50 rfl (by decide)
      have cum : m.toNatClampNeg = um := by rw [eum, nI_clamp (by omega)]
      refine G_iload_n (i := 3) C 54 dX10_run_53 rfl rfl rfl ?_
      refine G_if_ne C 60 57 dX10_run_54 rfl rfl (fun _ => ?_) (fun c => absurd c (by decide))
      refine G_aload_n (i := 0) C 61 dX10_run_60 rfl rfl rfl ?_
      refine X10_61g C 64 dX10_run_61 rfl ?_
      refine G_aload_n (i := 0) C 65 dX10_run_64 rfl rfl rfl ?_
      refine X10_57g C 68 dX10_run_65 rfl ?_
      refine G_callv 71 (G_runV C Kc_X9_become KV_X10_174 (by omega) (lW0 (Or.inr (Or.inl rfl))) (eW _ _ _ (Or.inr (Or.inl rfl))) rfl (c_X9_become 0 54 45 (Or.inr (Or.inl rfl)) (Or.inl rfl) (by decide) s) rfl rfl rfl (Nat.le_of_ble_eq_true rfl) rfl dX10_run_68) rfl (fun s68 h68 => ?_)
      have fm_1 : cI TX nT n l 45 P s68 := cI_q fm (h68.1.UQ)
      have fq_1 : Fr mQ s s68 := Fr.tr fq (h68.1.UQ)
      have i_1 : cI TX nT n l 54 P s68 := cI_bec fm_1 h68.1 h68.2
      refine G_aload_n (i := 0) C 72 dX10_run_71 rfl rfl rfl ?_
      refine X10_61g C 75 dX10_run_72 rfl ?_
      refine G_iload_n (i := 1) C 76 dX10_run_75 rfl rfl rfl ?_
      refine G_calli 79 (G_runV C Kc_X9_passMany KV_X10_178 (by omega) (lW0 (Or.inr (Or.inl rfl))) (eW _ _ _ (Or.inr (Or.inl rfl))) rfl (c_X9_passMany 0 TX nT n l 54 P s68 i_1 m um eum (by omega)) rfl rfl rfl (Nat.le_of_ble_eq_true rfl) rfl dX10_run_76) rfl (fun x76 s76 h76 => ?_)
      have fm_2 : cI TX nT n l 45 P s76 := cI_q fm_1 (h76.1.Q)
      have fq_2 : Fr mQ s s76 := Fr.tr fq_1 (h76.1.Q)
      have i_2 : cI TX nT n l 54 (x_run TX um P) s76 := h76.2.1
      refine G_istore (L' := [some (.ref (e_ad E 0)), some (.int m), some (.int q), some (.int 1), some (.int x76)]) C 81 dX10_run_79 rfl (Nat.le_of_ble_eq_true rfl) rfl rfl ?_
      refine G_iload_n (i := 2) C 82 dX10_run_81 rfl rfl rfl ?_
      by_cases c82 : q = 0
      ·
        refine G_tsIn C 108 (0) c82 dX10_run_82 (by decide) rfl rfl ?_
        refine G_aload_n (i := 0) C 109 dX10_run_108 rfl rfl rfl ?_
        refine X10_61g C 112 dX10_run_109 rfl ?_
        refine X10_100g C (Or.inr (Or.inl rfl)) 115 dX10_run_112 rfl (fun x112 ex112 => ?_)
        have Sx112 : x112 = (x_run TX um P) 0 2 := ex112.trans (cI_v i_2 0 2)
        obtain ⟨mx112, hmx112, emx112⟩ := i_2.2.2.1.2.2.2.2.2.2.2.1
        have eo : s_run TX P m q = (if q = 0 then x_run TX m.toNatClampNeg P 0 2 else if q = 1 then x_cr TX m.toNatClampNeg P else if q = 2 then x_kt (x_run TX m.toNatClampNeg P) (x_n P) else if x_one (q - 10) (x_n P) = 0 then x_run TX m.toNatClampNeg P 4 (q - 20).toNatClampNeg else x_run TX m.toNatClampNeg P 2 (q - 10).toNatClampNeg) := by
          have e1 : ¬ s_ruOk P m q = 0 := by unfold s_ruOk; rw [if_neg k50, if_neg k6]; first | decide | exact k34
          unfold s_run; rw [if_neg e1]
        exact G_iret C dX10_run_115 (⟨RC_q hR fq_2, by rw [eo, cum, if_pos c82]; exact Sx112⟩)
      by_cases c82_1 : q = 1
      ·
        refine G_tsIn C 116 (1) c82_1 dX10_run_82 (by decide) rfl rfl ?_
        refine G_iload C 118 dX10_run_116 rfl rfl ?_
        have eo : s_run TX P m q = (if q = 0 then x_run TX m.toNatClampNeg P 0 2 else if q = 1 then x_cr TX m.toNatClampNeg P else if q = 2 then x_kt (x_run TX m.toNatClampNeg P) (x_n P) else if x_one (q - 10) (x_n P) = 0 then x_run TX m.toNatClampNeg P 4 (q - 20).toNatClampNeg else x_run TX m.toNatClampNeg P 2 (q - 10).toNatClampNeg) := by
          have e1 : ¬ s_ruOk P m q = 0 := by unfold s_ruOk; rw [if_neg k50, if_neg k6]; first | decide | exact k34
          unfold s_run; rw [if_neg e1]
        exact G_iret C dX10_run_118 (⟨RC_q hR fq_2, by rw [eo, cum, if_neg c82, if_pos c82_1]; exact h76.2.2⟩)
      by_cases c82_2 : q = 2
      ·
        refine G_tsIn C 119 (2) c82_2 dX10_run_82 (by decide) rfl rfl ?_
        refine G_aload_n (i := 0) C 120 dX10_run_119 rfl rfl rfl ?_
        refine X10_61g C 123 dX10_run_120 rfl ?_
        refine G_calli 126 (G_runV C Kc_X9_knownTogether KV_X10_181 (by omega) (lW0 (Or.inr (Or.inl rfl))) (eW _ _ _ (Or.inr (Or.inl rfl))) rfl (c_X9_knownTogether 0 TX nT n l 54 (x_run TX um P) s76 i_2) rfl rfl rfl (Nat.le_of_ble_eq_true rfl) rfl dX10_run_123) rfl (fun x123 s123 h123 => ?_)
        obtain ⟨es123, h123⟩ := h123
        have es123 := es123.symm
        subst es123
        have eo : s_run TX P m q = (if q = 0 then x_run TX m.toNatClampNeg P 0 2 else if q = 1 then x_cr TX m.toNatClampNeg P else if q = 2 then x_kt (x_run TX m.toNatClampNeg P) (x_n P) else if x_one (q - 10) (x_n P) = 0 then x_run TX m.toNatClampNeg P 4 (q - 20).toNatClampNeg else x_run TX m.toNatClampNeg P 2 (q - 10).toNatClampNeg) := by
          have e1 : ¬ s_ruOk P m q = 0 := by unfold s_ruOk; rw [if_neg k50, if_neg k6]; first | decide | exact k34
          unfold s_run; rw [if_neg e1]
        exact G_iret C dX10_run_126 (⟨RC_q hR fq_2, by rw [eo, cum, if_neg c82, if_neg c82_1, if_pos c82_2, hxn]; exact h123⟩)
      exfalso; obtain ⟨z, hz, ez⟩ := x_inR (b := 2) k6 rfl (by decide); have : z = 0 ∨ z = 1 ∨ z = 2 := (by omega); rcases this with rfl | rfl | rfl <;> first | exact c82 ez | exact c82_1 ez | exact c82_2 ez
  ·
    have k6 := h3.symm.trans c6
    refine G_aload_n (i := 0) C 10 dX10_run_9 rfl rfl rfl ?_
    refine X10_57g C 13 dX10_run_10 rfl ?_
    refine G_iload_n (i := 2) C 14 dX10_run_13 rfl rfl rfl ?_
    refine G_bipush (v := 10) C 16 dX10_run_14 rfl rfl ?_
    refine G_isub C 17 dX10_run_16 rfl (fun x16 ex16 => ?_)
    refine G_calli 20 (G_runV C Kc_X9_isOne KV_X10_139 (by omega) (lW0 (Or.inl rfl)) (eW _ _ _ (Or.inl rfl)) rfl (c_X9_isOne 0 45 n (Or.inl rfl) s (cI_n fm) x16) rfl rfl rfl (Nat.le_of_ble_eq_true rfl) rfl dX10_run_17) rfl (fun x17 s17 h17 => ?_)
    obtain ⟨es17, h17⟩ := h17
    have es17 := es17.symm
    subst es17
    refine G_if_ne C 37 23 dX10_run_20 rfl rfl (fun c20 => ?_) (fun c20 => ?_)
    ·
      have k20 := g_neT h17 c20
      refine G_iconst (v := 1) C 38 dX10_run_37 rfl rfl ?_
      refine G_goto C 42 dX10_run_38 rfl ?_
      refine G_istore_n (i := 3) (L' := [some (.ref (e_ad E 0)), some (.int m), some (.int q), some (.int 1), none]) C 43 dX10_run_42 rfl rfl (Nat.le_of_ble_eq_true rfl) rfl rfl ?_
      refine G_iload_n (i := 1) C 44 dX10_run_43 rfl rfl rfl ?_
      refine G_iconst (v := 0) C 45 dX10_run_44 rfl rfl ?_
      refine G_bipush (v := 40) C 47 dX10_run_45 rfl rfl ?_
      refine G_calli 50 (G_runS C Kc_X10_within KS_X10_112 (by omega) (c_X10_within 0 m 0 40 s) rfl rfl (Nat.le_of_ble_eq_true rfl) rfl dX10_run_47) rfl (fun x47 s47 h47 => ?_)
      obtain ⟨es47, h47⟩ := h47
      have es47 := es47.symm
      subst es47
      refine G_if_eq C 57 53 dX10_run_50 rfl rfl (fun c50 => ?_) (fun c50 => ?_)
      ·
        have k50 := h47.symm.trans c50
        refine G_bipush (v := (-2)) C 59 dX10_run_57 rfl rfl ?_
        exact G_iret C dX10_run_59 (⟨RC_q hR fq, by unfold s_run s_ruOk; rw [if_pos k50, if_pos rfl]⟩)
      ·
        have k50 := g_neT h47 c50
        obtain ⟨um, hum, eum⟩ := x_inR (b := 40) k50 rfl (by decide)
        have cum : m.toNatClampNeg = um := by rw [eum, nI_clamp (by omega)]
        refine G_iload_n (i := 3) C 54 dX10_run_53 rfl rfl rfl ?_
        refine G_if_ne C 60 57 dX10_run_54 rfl rfl (fun _ => ?_) (fun c => absurd c (by decide))
        refine G_aload_n (i := 0) C 61 dX10_run_60 rfl rfl rfl ?_
        refine X10_61g C 64 dX10_run_61 rfl ?_
        refine G_aload_n (i := 0) C 65 dX10_run_64 rfl rfl rfl ?_
        refine X10_57g C 68 dX10_run_65 rfl ?_
        refine G_callv 71 (G_runV C Kc_X9_become KV_X10_174 (by omega) (lW0 (Or.inr (Or.inl rfl))) (eW _ _ _ (Or.inr (Or.inl rfl))) rfl (c_X9_become 0 54 45 (Or.inr (Or.inl rfl)) (Or.inl rfl) (by decide) s) rfl rfl rfl (Nat.le_of_ble_eq_true rfl) rfl dX10_run_68) rfl (fun s68 h68 => ?_)
        have fm_1 : cI TX nT n l 45 P s68 := cI_q fm (h68.1.UQ)
        have fq_1 : Fr mQ s s68 := Fr.tr fq (h68.1.UQ)
        have i_1 : cI TX nT n l 54 P s68 := cI_bec fm_1 h68.1 h68.2
        refine G_aload_n (i := 0) C 72 dX10_run_71 rfl rfl rfl ?_
        refine X10_61g C 75 dX10_run_72 rfl ?_
        refine G_iload_n (i := 1) C 76 dX10_run_75 rfl rfl rfl ?_
        refine G_calli 79 (G_runV C Kc_X9_passMany KV_X10_178 (by omega) (lW0 (Or.inr (Or.inl rfl))) (eW _ _ _ (Or.inr (Or.inl rfl))) rfl (c_X9_passMany 0 TX nT n l 54 P s68 i_1 m um eum (by omega)) rfl rfl rfl (Nat.le_of_ble_eq_true rfl) rfl dX10_run_76) rfl (fun x76 s76 h76 => ?_)
        have fm_2 : cI TX nT n l 45 P s76 := cI_q fm_1 (h76.1.Q)
        have fq_2 : Fr mQ s s76 := Fr.tr fq_1 (h76.1.Q)
        have i_2 : cI TX nT n l 54 (x_run TX um P) s76 := h76.2.1
        refine G_istore (L' := [some (.ref (e_ad E 0)), some (.int m), some (.int q), some (.int 1), some (.int x76)]) C 81 dX10_run_79 rfl (Nat.le_of_ble_eq_true rfl) rfl rfl ?_
        refine G_iload_n (i := 2) C 82 dX10_run_81 rfl rfl rfl ?_
        by_cases c82 : q = 0
        ·
          refine G_tsIn C 108 (0) c82 dX10_run_82 (by decide) rfl rfl ?_
          refine G_aload_n (i := 0) C 109 dX10_run_108 rfl rfl rfl ?_
          refine X10_61g C 112 dX10_run_109 rfl ?_
          refine X10_100g C (Or.inr (Or.inl rfl)) 115 dX10_run_112 rfl (fun x112 ex112 => ?_)
          have Sx112 : x112 = (x_run TX um P) 0 2 := ex112.trans (cI_v i_2 0 2)
          obtain ⟨mx112, hmx112, emx112⟩ := i_2.2.2.1.2.2.2.2.2.2.2.1
          have eo : s_run TX P m q = (if q = 0 then x_run TX m.toNatClampNeg P 0 2 else if q = 1 then x_cr TX m.toNatClampNeg P else if q = 2 then x_kt (x_run TX m.toNatClampNeg P) (x_n P) else if x_one (q - 10) (x_n P) = 0 then x_run TX m.toNatClampNeg P 4 (q - 20).toNatClampNeg else x_run TX m.toNatClampNeg P 2 (q - 10).toNatClampNeg) := by
            have e1 : ¬ s_ruOk P m q = 0 := by unfold s_ruOk; rw [if_neg k50, if_pos k6, hxn, ← ex16, if_neg k20]; first | decide | exact k34
            unfold s_run; rw [if_neg e1]
          exact G_iret C dX10_run_115 (⟨RC_q hR fq_2, by rw [eo, cum, if_pos c82]; exact Sx112⟩)
        by_cases c82_1 : q = 1
        ·
          refine G_tsIn C 116 (1) c82_1 dX10_run_82 (by decide) rfl rfl ?_
          refine G_iload C 118 dX10_run_116 rfl rfl ?_
          have eo : s_run TX P m q = (if q = 0 then x_run TX m.toNatClampNeg P 0 2 else if q = 1 then x_cr TX m.toNatClampNeg P else if q = 2 then x_kt (x_run TX m.toNatClampNeg P) (x_n P) else if x_one (q - 10) (x_n P) = 0 then x_run TX m.toNatClampNeg P 4 (q - 20).toNatClampNeg else x_run TX m.toNatClampNeg P 2 (q - 10).toNatClampNeg) := by
            have e1 : ¬ s_ruOk P m q = 0 := by unfold s_ruOk; rw [if_neg k50, if_pos k6, hxn, ← ex16, if_neg k20]; first | decide | exact k34
            unfold s_run; rw [if_neg e1]
          exact G_iret C dX10_run_118 (⟨RC_q hR fq_2, by rw [eo, cum, if_neg c82, if_pos c82_1]; exact h76.2.2⟩)
        by_cases c82_2 : q = 2
        ·
          refine G_tsIn C 119 (2) c82_2 dX10_run_82 (by decide) rfl rfl ?_
          refine G_aload_n (i := 0) C 120 dX10_run_119 rfl rfl rfl ?_
          refine X10_61g C 123 dX10_run_120 rfl ?_
          refine G_calli 126 (G_runV C Kc_X9_knownTogether KV_X10_181 (by omega) (lW0 (Or.inr (Or.inl rfl))) (eW _ _ _ (Or.inr (Or.inl rfl))) rfl (c_X9_knownTogether 0 TX nT n l 54 (x_run TX um P) s76 i_2) rfl rfl rfl (Nat.le_of_ble_eq_true rfl) rfl dX10_run_123) rfl (fun x123 s123 h123 => ?_)
          obtain ⟨es123, h123⟩ := h123
          have es123 := es123.symm
          subst es123
          have eo : s_run TX P m q = (if q = 0 then x_run TX m.toNatClampNeg P 0 2 else if q = 1 then x_cr TX m.toNatClampNeg P else if q = 2 then x_kt (x_run TX m.toNatClampNeg P) (x_n P) else if x_one (q - 10) (x_n P) = 0 then x_run TX m.toNatClampNeg P 4 (q - 20).toNatClampNeg else x_run TX m.toNatClampNeg P 2 (q - 10).toNatClampNeg) := by
            have e1 : ¬ s_ruOk P m q = 0 := by unfold s_ruOk; rw [if_neg k50, if_pos k6, hxn, ← ex16, if_neg k20]; first | decide | exact k34
            unfold s_run; rw [if_neg e1]
          exact G_iret C dX10_run_126 (⟨RC_q hR fq_2, by rw [eo, cum, if_neg c82, if_neg c82_1, if_pos c82_2, hxn]; exact h123⟩)
        refine G_tsOut C 127 dX10_run_82 (by
          have e0 := g_ti (k := 0) 0 rfl c82
          have e1 := g_ti (k := 1) 1 rfl c82_1
          have e2 := g_ti (k := 2) 2 rfl c82_2
          omega) rfl ?_
        refine G_aload_n (i := 0) C 128 dX10_run_127 rfl rfl rfl ?_
        refine X10_57g C 131 dX10_run_128 rfl ?_
        refine G_iload_n (i := 2) C 132 dX10_run_131 rfl rfl rfl ?_
        refine G_bipush (v := 10) C 134 dX10_run_132 rfl rfl ?_
        refine G_isub C 135 dX10_run_134 rfl (fun x134 ex134 => ?_)
        refine G_calli 138 (G_runV C Kc_X9_isOne KV_X10_139 (by omega) (lW0 (Or.inl rfl)) (eW _ _ _ (Or.inl rfl)) rfl (c_X9_isOne 0 45 n (Or.inl rfl) s76 (cI_n fm_2) x134) rfl rfl rfl (Nat.le_of_ble_eq_true rfl) rfl dX10_run_135) rfl (fun x135 s135 h135 => ?_)
        obtain ⟨es135, h135⟩ := h135
        have es135 := es135.symm
        subst es135
        refine G_if_eq C 156 141 dX10_run_138 rfl rfl (fun c138 => ?_) (fun c138 => ?_)
        ·
          exfalso; exact k20 (by rw [ex16, ← ex134]; exact h135.symm.trans c138)
        ·
          have k138 := g_neT h135 c138
          obtain ⟨ux, hux, eux⟩ := x_oneT hn6 k138
          refine G_aload_n (i := 0) C 142 dX10_run_141 rfl rfl rfl ?_
          refine X10_61g C 145 dX10_run_142 rfl ?_
          refine X10_184g C (Or.inr (Or.inl rfl)) 148 dX10_run_145 rfl ?_
          refine G_iload_n (i := 2) C 149 dX10_run_148 rfl rfl rfl ?_
          refine G_bipush (v := 10) C 151 dX10_run_149 rfl rfl ?_
          refine G_isub C 152 dX10_run_151 rfl (fun x151 ex151 => ?_)
          have Nx151 : x151 = nI ux := (ex151.trans (ex134.symm.trans eux))
          refine G_iald (n := 6) C 153 (lW (Or.inr (Or.inl rfl)) (by decide)) (eW2 _ _ _ (Or.inr (Or.inl rfl))) (ux) Nx151 (by omega) (by decide) dX10_run_152 rfl (fun x152 ex152 => ?_)
          have Sx152 : x152 = (x_run TX um P) 2 (ux) := ex152.trans (congrFun (congrFun i_2.2.1 2) _)
          refine G_goto C 168 dX10_run_153 rfl ?_
          have eo : s_run TX P m q = (if q = 0 then x_run TX m.toNatClampNeg P 0 2 else if q = 1 then x_cr TX m.toNatClampNeg P else if q = 2 then x_kt (x_run TX m.toNatClampNeg P) (x_n P) else if x_one (q - 10) (x_n P) = 0 then x_run TX m.toNatClampNeg P 4 (q - 20).toNatClampNeg else x_run TX m.toNatClampNeg P 2 (q - 10).toNatClampNeg) := by
            have e1 : ¬ s_ruOk P m q = 0 := by unfold s_ruOk; rw [if_neg k50, if_pos k6, hxn, ← ex16, if_neg k20]; first | decide | exact k34
            unfold s_run; rw [if_neg e1]
          exact G_iret C dX10_run_168 (⟨RC_q hR fq_2, by rw [eo, cum, if_neg c82, if_neg c82_1, if_neg c82_2, hxn, ← ex134, if_neg k138, eux, nI_clamp (by omega)]; exact Sx152⟩)
    ·
      have k20 := h17.symm.trans c20
      refine G_aload_n (i := 0) C 24 dX10_run_23 rfl rfl rfl ?_
      refine X10_57g C 27 dX10_run_24 rfl ?_
      refine G_iload_n (i := 2) C 28 dX10_run_27 rfl rfl rfl ?_
      refine G_bipush (v := 20) C 30 dX10_run_28 rfl rfl ?_
      refine G_isub C 31 dX10_run_30 rfl (fun x30 ex30 => ?_)
      refine G_calli 34 (G_runV C Kc_X9_isOne KV_X10_139 (by omega) (lW0 (Or.inl rfl)) (eW _ _ _ (Or.inl rfl)) rfl (c_X9_isOne 0 45 n (Or.inl rfl) s (cI_n fm) x30) rfl rfl rfl (Nat.le_of_ble_eq_true rfl) rfl dX10_run_31) rfl (fun x31 s31 h31 => ?_)
      obtain ⟨es31, h31⟩ := h31
      have es31 := es31.symm
      subst es31
      refine G_if_eq C 41 37 dX10_run_34 rfl rfl (fun c34 => ?_) (fun c34 => ?_)
      ·
        have k34 := h31.symm.trans c34
        refine G_iconst (v := 0) C 42 dX10_run_41 rfl rfl ?_
        refine G_istore_n (i := 3) (L' := [some (.ref (e_ad E 0)), some (.int m), some (.int q), some (.int 0), none]) C 43 dX10_run_42 rfl rfl (Nat.le_of_ble_eq_true rfl) rfl rfl ?_
        refine G_iload_n (i := 1) C 44 dX10_run_43 rfl rfl rfl ?_
        refine G_iconst (v := 0) C 45 dX10_run_44 rfl rfl ?_
        refine G_bipush (v := 40) C 47 dX10_run_45 rfl rfl ?_
        refine G_calli 50 (G_runS C Kc_X10_within KS_X10_112 (by omega) (c_X10_within 0 m 0 40 s) rfl rfl (Nat.le_of_ble_eq_true rfl) rfl dX10_run_47) rfl (fun x47 s47 h47 => ?_)
        obtain ⟨es47, h47⟩ := h47
        have es47 := es47.symm
        subst es47
        refine G_if_eq C 57 53 dX10_run_50 rfl rfl (fun c50 => ?_) (fun c50 => ?_)
        ·
          have k50 := h47.symm.trans c50
          refine G_bipush (v := (-2)) C 59 dX10_run_57 rfl rfl ?_
          exact G_iret C dX10_run_59 (⟨RC_q hR fq, by unfold s_run s_ruOk; rw [if_pos k50, if_pos rfl]⟩)
        ·
          have k50 := g_neT h47 c50
          obtain ⟨um, hum, eum⟩ := x_inR (b := 40) k50 rfl (by decide)
          have cum : m.toNatClampNeg = um := by rw [eum, nI_clamp (by omega)]
          refine G_iload_n (i := 3) C 54 dX10_run_53 rfl rfl rfl ?_
          refine G_if_ne C 60 57 dX10_run_54 rfl rfl (fun c => absurd c (by decide)) (fun _ => ?_)
          refine G_bipush (v := (-2)) C 59 dX10_run_57 rfl rfl ?_
          exact G_iret C dX10_run_59 (⟨RC_q hR fq, by unfold s_run s_ruOk; rw [if_neg k50, if_pos k6, hxn, ← ex16, if_pos k20, ← ex30, if_pos k34]⟩)
      ·
        have k34 := g_neT h31 c34
        refine G_iconst (v := 1) C 38 dX10_run_37 rfl rfl ?_
        refine G_goto C 42 dX10_run_38 rfl ?_
        refine G_istore_n (i := 3) (L' := [some (.ref (e_ad E 0)), some (.int m), some (.int q), some (.int 1), none]) C 43 dX10_run_42 rfl rfl (Nat.le_of_ble_eq_true rfl) rfl rfl ?_
        refine G_iload_n (i := 1) C 44 dX10_run_43 rfl rfl rfl ?_
        refine G_iconst (v := 0) C 45 dX10_run_44 rfl rfl ?_
        refine G_bipush (v := 40) C 47 dX10_run_45 rfl rfl ?_
        refine G_calli 50 (G_runS C Kc_X10_within KS_X10_112 (by omega) (c_X10_within 0 m 0 40 s) rfl rfl (Nat.le_of_ble_eq_true rfl) rfl dX10_run_47) rfl (fun x47 s47 h47 => ?_)
        obtain ⟨es47, h47⟩ := h47
        have es47 := es47.symm
        subst es47
        refine G_if_eq C 57 53 dX10_run_50 rfl rfl (fun c50 => ?_) (fun c50 => ?_)
        ·
          have k50 := h47.symm.trans c50
          refine G_bipush (v := (-2)) C 59 dX10_run_57 rfl rfl ?_
          exact G_iret C dX10_run_59 (⟨RC_q hR fq, by unfold s_run s_ruOk; rw [if_pos k50, if_pos rfl]⟩)
        ·
          have k50 := g_neT h47 c50
          obtain ⟨um, hum, eum⟩ := x_inR (b := 40) k50 rfl (by decide)
          have cum : m.toNatClampNeg = um := by rw [eum, nI_clamp (by omega)]
          refine G_iload_n (i := 3) C 54 dX10_run_53 rfl rfl rfl ?_
          refine G_if_ne C 60 57 dX10_run_54 rfl rfl (fun _ => ?_) (fun c => absurd c (by decide))
          refine G_aload_n (i := 0) C 61 dX10_run_60 rfl rfl rfl ?_
          refine X10_61g C 64 dX10_run_61 rfl ?_
          refine G_aload_n (i := 0) C 65 dX10_run_64 rfl rfl rfl ?_
          refine X10_57g C 68 dX10_run_65 rfl ?_
          refine G_callv 71 (G_runV C Kc_X9_become KV_X10_174 (by omega) (lW0 (Or.inr (Or.inl rfl))) (eW _ _ _ (Or.inr (Or.inl rfl))) rfl (c_X9_become 0 54 45 (Or.inr (Or.inl rfl)) (Or.inl rfl) (by decide) s) rfl rfl rfl (Nat.le_of_ble_eq_true rfl) rfl dX10_run_68) rfl (fun s68 h68 => ?_)
          have fm_1 : cI TX nT n l 45 P s68 := cI_q fm (h68.1.UQ)
          have fq_1 : Fr mQ s s68 := Fr.tr fq (h68.1.UQ)
          have i_1 : cI TX nT n l 54 P s68 := cI_bec fm_1 h68.1 h68.2
          refine G_aload_n (i := 0) C 72 dX10_run_71 rfl rfl rfl ?_
          refine X10_61g C 75 dX10_run_72 rfl ?_
          refine G_iload_n (i := 1) C 76 dX10_run_75 rfl rfl rfl ?_
          refine G_calli 79 (G_runV C Kc_X9_passMany KV_X10_178 (by omega) (lW0 (Or.inr (Or.inl rfl))) (eW _ _ _ (Or.inr (Or.inl rfl))) rfl (c_X9_passMany 0 TX nT n l 54 P s68 i_1 m um eum (by omega)) rfl rfl rfl (Nat.le_of_ble_eq_true rfl) rfl dX10_run_76) rfl (fun x76 s76 h76 => ?_)
          have fm_2 : cI TX nT n l 45 P s76 := cI_q fm_1 (h76.1.Q)
          have fq_2 : Fr mQ s s76 := Fr.tr fq_1 (h76.1.Q)
          have i_2 : cI TX nT n l 54 (x_run TX um P) s76 := h76.2.1
          refine G_istore (L' := [some (.ref (e_ad E 0)), some (.int m), some (.int q), some (.int 1), some (.int x76)]) C 81 dX10_run_79 rfl (Nat.le_of_ble_eq_true rfl) rfl rfl ?_
          refine G_iload_n (i := 2) C 82 dX10_run_81 rfl rfl rfl ?_
          by_cases c82 : q = 0
          ·
            refine G_tsIn C 108 (0) c82 dX10_run_82 (by decide) rfl rfl ?_
            refine G_aload_n (i := 0) C 109 dX10_run_108 rfl rfl rfl ?_
            refine X10_61g C 112 dX10_run_109 rfl ?_
            refine X10_100g C (Or.inr (Or.inl rfl)) 115 dX10_run_112 rfl (fun x112 ex112 => ?_)
            have Sx112 : x112 = (x_run TX um P) 0 2 := ex112.trans (cI_v i_2 0 2)
            obtain ⟨mx112, hmx112, emx112⟩ := i_2.2.2.1.2.2.2.2.2.2.2.1
            have eo : s_run TX P m q = (if q = 0 then x_run TX m.toNatClampNeg P 0 2 else if q = 1 then x_cr TX m.toNatClampNeg P else if q = 2 then x_kt (x_run TX m.toNatClampNeg P) (x_n P) else if x_one (q - 10) (x_n P) = 0 then x_run TX m.toNatClampNeg P 4 (q - 20).toNatClampNeg else x_run TX m.toNatClampNeg P 2 (q - 10).toNatClampNeg) := by
              have e1 : ¬ s_ruOk P m q = 0 := by unfold s_ruOk; rw [if_neg k50, if_pos k6, hxn, ← ex16, if_pos k20, ← ex30]; first | decide | exact k34
              unfold s_run; rw [if_neg e1]
            exact G_iret C dX10_run_115 (⟨RC_q hR fq_2, by rw [eo, cum, if_pos c82]; exact Sx112⟩)
          by_cases c82_1 : q = 1
          ·
            refine G_tsIn C 116 (1) c82_1 dX10_run_82 (by decide) rfl rfl ?_
            refine G_iload C 118 dX10_run_116 rfl rfl ?_
            have eo : s_run TX P m q = (if q = 0 then x_run TX m.toNatClampNeg P 0 2 else if q = 1 then x_cr TX m.toNatClampNeg P else if q = 2 then x_kt (x_run TX m.toNatClampNeg P) (x_n P) else if x_one (q - 10) (x_n P) = 0 then x_run TX m.toNatClampNeg P 4 (q - 20).toNatClampNeg else x_run TX m.toNatClampNeg P 2 (q - 10).toNatClampNeg) := by
              have e1 : ¬ s_ruOk P m q = 0 := by unfold s_ruOk; rw [if_neg k50, if_pos k6, hxn, ← ex16, if_pos k20, ← ex30]; first | decide | exact k34
              unfold s_run; rw [if_neg e1]
            exact G_iret C dX10_run_118 (⟨RC_q hR fq_2, by rw [eo, cum, if_neg c82, if_pos c82_1]; exact h76.2.2⟩)
          by_cases c82_2 : q = 2
          ·
            refine G_tsIn C 119 (2) c82_2 dX10_run_82 (by decide) rfl rfl ?_
            refine G_aload_n (i := 0) C 120 dX10_run_119 rfl rfl rfl ?_
            refine X10_61g C 123 dX10_run_120 rfl ?_
            refine G_calli 126 (G_runV C Kc_X9_knownTogether KV_X10_181 (by omega) (lW0 (Or.inr (Or.inl rfl))) (eW _ _ _ (Or.inr (Or.inl rfl))) rfl (c_X9_knownTogether 0 TX nT n l 54 (x_run TX um P) s76 i_2) rfl rfl rfl (Nat.le_of_ble_eq_true rfl) rfl dX10_run_123) rfl (fun x123 s123 h123 => ?_)
            obtain ⟨es123, h123⟩ := h123
            have es123 := es123.symm
            subst es123
            have eo : s_run TX P m q = (if q = 0 then x_run TX m.toNatClampNeg P 0 2 else if q = 1 then x_cr TX m.toNatClampNeg P else if q = 2 then x_kt (x_run TX m.toNatClampNeg P) (x_n P) else if x_one (q - 10) (x_n P) = 0 then x_run TX m.toNatClampNeg P 4 (q - 20).toNatClampNeg else x_run TX m.toNatClampNeg P 2 (q - 10).toNatClampNeg) := by
              have e1 : ¬ s_ruOk P m q = 0 := by unfold s_ruOk; rw [if_neg k50, if_pos k6, hxn, ← ex16, if_pos k20, ← ex30]; first | decide | exact k34
              unfold s_run; rw [if_neg e1]
            exact G_iret C dX10_run_126 (⟨RC_q hR fq_2, by rw [eo, cum, if_neg c82, if_neg c82_1, if_pos c82_2, hxn]; exact h123⟩)
          refine G_tsOut C 127 dX10_run_82 (by
            have e0 := g_ti (k := 0) 0 rfl c82
            have e1 := g_ti (k := 1) 1 rfl c82_1
            have e2 := g_ti (k := 2) 2 rfl c82_2
            omega) rfl ?_
          refine G_aload_n (i := 0) C 128 dX10_run_127 rfl rfl rfl ?_
          refine X10_57g C 131 dX10_run_128 rfl ?_
          refine G_iload_n (i := 2) C 132 dX10_run_131 rfl rfl rfl ?_
          refine G_bipush (v := 10) C 134 dX10_run_132 rfl rfl ?_
          refine G_isub C 135 dX10_run_134 rfl (fun x134 ex134 => ?_)
          refine G_calli 138 (G_runV C Kc_X9_isOne KV_X10_139 (by omega) (lW0 (Or.inl rfl)) (eW _ _ _ (Or.inl rfl)) rfl (c_X9_isOne 0 45 n (Or.inl rfl) s76 (cI_n fm_2) x134) rfl rfl rfl (Nat.le_of_ble_eq_true rfl) rfl dX10_run_135) rfl (fun x135 s135 h135 => ?_)
          obtain ⟨es135, h135⟩ := h135
          have es135 := es135.symm
          subst es135
          refine G_if_eq C 156 141 dX10_run_138 rfl rfl (fun c138 => ?_) (fun c138 => ?_)
          ·
            have k138 := h135.symm.trans c138
            obtain ⟨ux, hux, eux⟩ := x_oneT hn6 k34
            refine G_aload_n (i := 0) C 157 dX10_run_156 rfl rfl rfl ?_
            refine X10_61g C 160 dX10_run_157 rfl ?_
            refine X10_187g C (Or.inr (Or.inl rfl)) 163 dX10_run_160 rfl ?_
            refine G_iload_n (i := 2) C 164 dX10_run_163 rfl rfl rfl ?_
            refine G_bipush (v := 20) C 166 dX10_run_164 rfl rfl ?_
            refine G_isub C 167 dX10_run_166 rfl (fun x166 ex166 => ?_)
            have Nx166 : x166 = nI ux := (ex166.trans (ex30.symm.trans eux))
            refine G_iald (n := 6) C 168 (lW (Or.inr (Or.inl rfl)) (by decide)) (eW4 _ _ _ (Or.inr (Or.inl rfl))) (ux) Nx166 (by omega) (by decide) dX10_run_167 rfl (fun x167 ex167 => ?_)
            have Sx167 : x167 = (x_run TX um P) 4 (ux) := ex167.trans (congrFun (congrFun i_2.2.1 4) _)
            obtain ⟨mx167, hmx167, emx167⟩ := (cI_p i_2 (p := ux) (by omega)).2.2
            have eo : s_run TX P m q = (if q = 0 then x_run TX m.toNatClampNeg P 0 2 else if q = 1 then x_cr TX m.toNatClampNeg P else if q = 2 then x_kt (x_run TX m.toNatClampNeg P) (x_n P) else if x_one (q - 10) (x_n P) = 0 then x_run TX m.toNatClampNeg P 4 (q - 20).toNatClampNeg else x_run TX m.toNatClampNeg P 2 (q - 10).toNatClampNeg) := by
              have e1 : ¬ s_ruOk P m q = 0 := by unfold s_ruOk; rw [if_neg k50, if_pos k6, hxn, ← ex16, if_pos k20, ← ex30]; first | decide | exact k34
              unfold s_run; rw [if_neg e1]
            exact G_iret C dX10_run_168 (⟨RC_q hR fq_2, by rw [eo, cum, if_neg c82, if_neg c82_1, if_neg c82_2, hxn, ← ex134, if_pos k138, ← ex166, Nx166, nI_clamp (by omega)]; exact Sx167⟩)
          ·
            exfalso; exact c138 (h135.trans (by rw [ex134, ← ex16]; exact k20))
theorem dX10_isSoInThought_0 : decode cX10_isSoInThought 0 = .ok (.iload_n 1, 1) := by decide +kernel
theorem dX10_isSoInThought_1 : decode cX10_isSoInThought 1 = .ok (.bipush 10, 2) := by decide +kernel
theorem dX10_isSoInThought_3 : decode cX10_isSoInThought 3 = .ok (.if_icmp .ne 19, 3) := by decide +kernel
theorem dX10_isSoInThought_6 : decode cX10_isSoInThought 6 = .ok (.aload_n 0, 1) := by decide +kernel
theorem dX10_isSoInThought_7 : decode cX10_isSoInThought 7 = .ok (.getfield 61, 3) := by decide +kernel
theorem dX10_isSoInThought_10 : decode cX10_isSoInThought 10 = .ok (.getfield 100, 3) := by decide +kernel
theorem dX10_isSoInThought_13 : decode cX10_isSoInThought 13 = .ok (.ifCond .ne 7, 3) := by decide +kernel
theorem dX10_isSoInThought_16 : decode cX10_isSoInThought 16 = .ok (.iconst 1, 1) := by decide +kernel
theorem dX10_isSoInThought_17 : decode cX10_isSoInThought 17 = .ok (.goto 4, 3) := by decide +kernel
theorem dX10_isSoInThought_20 : decode cX10_isSoInThought 20 = .ok (.iconst 0, 1) := by decide +kernel
theorem dX10_isSoInThought_21 : decode cX10_isSoInThought 21 = .ok (.ireturn, 1) := by decide +kernel
theorem dX10_isSoInThought_22 : decode cX10_isSoInThought 22 = .ok (.iload_n 1, 1) := by decide +kernel
theorem dX10_isSoInThought_23 : decode cX10_isSoInThought 23 = .ok (.bipush 10, 2) := by decide +kernel
theorem dX10_isSoInThought_25 : decode cX10_isSoInThought 25 = .ok (.if_icmp .ge 23, 3) := by decide +kernel
theorem dX10_isSoInThought_28 : decode cX10_isSoInThought 28 = .ok (.aload_n 0, 1) := by decide +kernel
theorem dX10_isSoInThought_29 : decode cX10_isSoInThought 29 = .ok (.getfield 61, 3) := by decide +kernel
theorem dX10_isSoInThought_32 : decode cX10_isSoInThought 32 = .ok (.getfield 100, 3) := by decide +kernel
theorem dX10_isSoInThought_35 : decode cX10_isSoInThought 35 = .ok (.iload_n 1, 1) := by decide +kernel
theorem dX10_isSoInThought_36 : decode cX10_isSoInThought 36 = .ok (.invokestatic 199, 3) := by decide +kernel
theorem dX10_isSoInThought_39 : decode cX10_isSoInThought 39 = .ok (.ifCond .ne 7, 3) := by decide +kernel
theorem dX10_isSoInThought_42 : decode cX10_isSoInThought 42 = .ok (.iconst 1, 1) := by decide +kernel
theorem dX10_isSoInThought_43 : decode cX10_isSoInThought 43 = .ok (.goto 4, 3) := by decide +kernel
theorem dX10_isSoInThought_46 : decode cX10_isSoInThought 46 = .ok (.iconst 0, 1) := by decide +kernel
theorem dX10_isSoInThought_47 : decode cX10_isSoInThought 47 = .ok (.ireturn, 1) := by decide +kernel
theorem dX10_isSoInThought_48 : decode cX10_isSoInThought 48 = .ok (.iload_n 1, 1) := by decide +kernel
theorem dX10_isSoInThought_49 : decode cX10_isSoInThought 49 = .ok (.bipush 10, 2) := by decide +kernel
theorem dX10_isSoInThought_51 : decode cX10_isSoInThought 51 = .ok (.idiv, 1) := by decide +kernel
theorem dX10_isSoInThought_52 : decode cX10_isSoInThought 52 = .ok (.iconst 2, 1) := by decide +kernel
theorem dX10_isSoInThought_53 : decode cX10_isSoInThought 53 = .ok (.isub, 1) := by decide +kernel
theorem dX10_isSoInThought_54 : decode cX10_isSoInThought 54 = .ok (.istore_n 2, 1) := by decide +kernel
theorem dX10_isSoInThought_55 : decode cX10_isSoInThought 55 = .ok (.aload_n 0, 1) := by decide +kernel
theorem dX10_isSoInThought_56 : decode cX10_isSoInThought 56 = .ok (.getfield 61, 3) := by decide +kernel
theorem dX10_isSoInThought_59 : decode cX10_isSoInThought 59 = .ok (.iload_n 2, 1) := by decide +kernel
theorem dX10_isSoInThought_60 : decode cX10_isSoInThought 60 = .ok (.invokevirtual 139, 3) := by decide +kernel
theorem dX10_isSoInThought_63 : decode cX10_isSoInThought 63 = .ok (.ifCond .eq 26, 3) := by decide +kernel
theorem dX10_isSoInThought_66 : decode cX10_isSoInThought 66 = .ok (.aload_n 0, 1) := by decide +kernel
theorem dX10_isSoInThought_67 : decode cX10_isSoInThought 67 = .ok (.getfield 61, 3) := by decide +kernel
theorem dX10_isSoInThought_70 : decode cX10_isSoInThought 70 = .ok (.getfield 187, 3) := by decide +kernel
theorem dX10_isSoInThought_73 : decode cX10_isSoInThought 73 = .ok (.iload_n 2, 1) := by decide +kernel
theorem dX10_isSoInThought_74 : decode cX10_isSoInThought 74 = .ok (.iaload, 1) := by decide +kernel
theorem dX10_isSoInThought_75 : decode cX10_isSoInThought 75 = .ok (.iload_n 1, 1) := by decide +kernel
theorem dX10_isSoInThought_76 : decode cX10_isSoInThought 76 = .ok (.bipush 10, 2) := by decide +kernel
theorem dX10_isSoInThought_78 : decode cX10_isSoInThought 78 = .ok (.irem, 1) := by decide +kernel
theorem dX10_isSoInThought_79 : decode cX10_isSoInThought 79 = .ok (.invokestatic 199, 3) := by decide +kernel
theorem dX10_isSoInThought_82 : decode cX10_isSoInThought 82 = .ok (.ifCond .eq 7, 3) := by decide +kernel
theorem dX10_isSoInThought_85 : decode cX10_isSoInThought 85 = .ok (.iconst 1, 1) := by decide +kernel
theorem dX10_isSoInThought_86 : decode cX10_isSoInThought 86 = .ok (.goto 4, 3) := by decide +kernel
theorem dX10_isSoInThought_89 : decode cX10_isSoInThought 89 = .ok (.iconst 0, 1) := by decide +kernel
theorem dX10_isSoInThought_90 : decode cX10_isSoInThought 90 = .ok (.ireturn, 1) := by decide +kernel
set_option maxHeartbeats 4000000 in
set_option maxRecDepth 100000 in
theorem c_X10_isSoInThought (d : Nat) (TX : gTX) (nT n l : Nat) (P s : gS) (hI : cI TX nT n l 54 P s) (q : Int32) (hq : ¬ x_in q 0 10 = 0 ∨ ¬ x_one (q / 10 - 2) n = 0) : gMt SC yX10_isSoInThought cX10_isSoInThought 3 (some .boolean) (d + 2) (fun ad => [.ref (ad 0), .int q]) s (gQi SC (fun r s' => s' = s ∧ r = x_isSo P q)) := by
  have hn6 : n ≤ 6 := hI.2.2.1.2.1
  refine gMt_of SC_ok (by decide +kernel) (fun ad => [some (.ref (ad 0)), some (.int q), none]) (fun _ => rfl) (fun _ => rfl) (fun _ => Nat.le_of_ble_eq_true rfl) (fun E C0 => ?_)
  have C : gCx SC E RX10 cX10_isSoInThought 3 (some .boolean) (d + 2) := C0
  have i : cI TX nT n l 54 P s := hI
  refine G_iload_n (i := 1) C 1 dX10_isSoInThought_0 rfl rfl rfl ?_
  refine G_bipush (v := 10) C 3 dX10_isSoInThought_1 rfl rfl ?_
  refine G_icmp_ne C 22 6 dX10_isSoInThought_3 rfl rfl (fun c3 => ?_) (fun c3 => ?_)
  ·
    refine G_iload_n (i := 1) C 23 dX10_isSoInThought_22 rfl rfl rfl ?_
    refine G_bipush (v := 10) C 25 dX10_isSoInThought_23 rfl rfl ?_
    refine G_icmp_ge C 48 28 dX10_isSoInThought_25 rfl rfl (fun c25 => ?_) (fun c25 => ?_)
    ·
      have kq : ¬ x_one (q / 10 - 2) n = 0 := hq.resolve_left (fun h => by obtain ⟨z, hz, ez⟩ := x_inR (b := 10) h rfl (by decide); have h10 : ¬ z = 10 := fun y => c3 (by rw [ez, y]; rfl); exact c25 (by rw [ez, show (10 : Int32) = nI 10 from rfl]; exact (nI_ltI (by omega) (by omega)).mpr (by omega)))
      obtain ⟨uz, huz, euz0⟩ := x_oneT hn6 kq
      refine G_iload_n (i := 1) C 49 dX10_isSoInThought_48 rfl rfl rfl ?_
      refine G_bipush (v := 10) C 51 dX10_isSoInThought_49 rfl rfl ?_
      refine G_idiv C 52 dX10_isSoInThought_51 rfl (by decide) (fun x51 ex51 => ?_)
      refine G_iconst (v := 2) C 53 dX10_isSoInThought_52 rfl rfl ?_
      refine G_isub C 54 dX10_isSoInThought_53 rfl (fun x53 ex53 => ?_)
      have Nx53 : x53 = nI uz := (by rw [ex53, ex51]; exact euz0)
      refine G_istore_n (i := 2) (L' := [some (.ref (e_ad E 0)), some (.int q), some (.int x53)]) C 55 dX10_isSoInThought_54 rfl rfl (Nat.le_of_ble_eq_true rfl) rfl rfl ?_
      refine G_aload_n (i := 0) C 56 dX10_isSoInThought_55 rfl rfl rfl ?_
      refine X10_61g C 59 dX10_isSoInThought_56 rfl ?_
      refine G_iload_n (i := 2) C 60 dX10_isSoInThought_59 rfl rfl rfl ?_
      refine G_calli 63 (G_runV C Kc_X9_isOne KV_X10_139 (by omega) (lW0 (Or.inr (Or.inl rfl))) (eW _ _ _ (Or.inr (Or.inl rfl))) rfl (c_X9_isOne 0 54 n (Or.inr (Or.inl rfl)) s (cI_n i) x53) rfl rfl rfl (Nat.le_of_ble_eq_true rfl) rfl dX10_isSoInThought_60) rfl (fun x60 s60 h60 => ?_)
      obtain ⟨es60, h60⟩ := h60
      have es60 := es60.symm
      subst es60
      refine G_if_eq C 89 66 dX10_isSoInThought_63 rfl rfl (fun c63 => ?_) (fun c63 => ?_)
      ·
        exfalso; exact kq (by rw [← ex51, ← ex53]; exact h60.symm.trans c63)
      ·
        have k63 := g_neT h60 c63
        refine G_aload_n (i := 0) C 67 dX10_isSoInThought_66 rfl rfl rfl ?_
        refine X10_61g C 70 dX10_isSoInThought_67 rfl ?_
        refine X10_187g C (Or.inr (Or.inl rfl)) 73 dX10_isSoInThought_70 rfl ?_
        refine G_iload_n (i := 2) C 74 dX10_isSoInThought_73 rfl rfl rfl ?_
        refine G_iald (n := 6) C 75 (lW (Or.inr (Or.inl rfl)) (by decide)) (eW4 _ _ _ (Or.inr (Or.inl rfl))) (uz) Nx53 (by omega) (by decide) dX10_isSoInThought_74 rfl (fun x74 ex74 => ?_)
        have Sx74 : x74 = P 4 (uz) := ex74.trans (congrFun (congrFun i.2.1 4) _)
        obtain ⟨mx74, hmx74, emx74⟩ := (cI_p i (p := uz) (by omega)).2.2
        refine G_iload_n (i := 1) C 76 dX10_isSoInThought_75 rfl rfl rfl ?_
        refine G_bipush (v := 10) C 78 dX10_isSoInThought_76 rfl rfl ?_
        refine G_irem C 79 dX10_isSoInThought_78 rfl (by decide) (fun x78 ex78 => ?_)
        refine G_calli 82 (G_runS C Kc_X10_isIn KS_X10_199 (by omega) (c_X10_isIn 0 x74 x78 s) rfl rfl (Nat.le_of_ble_eq_true rfl) rfl dX10_isSoInThought_79) rfl (fun x79 s79 h79 => ?_)
        obtain ⟨es79, h79⟩ := h79
        have es79 := es79.symm
        subst es79
        have Bx79 : x79 = x_bit x74 x78 := h79.trans (x_isInE _ _)
        refine G_if_eq C 89 85 dX10_isSoInThought_82 rfl rfl (fun c82 => ?_) (fun c82 => ?_)
        ·
          have k82 := h79.symm.trans c82
          have k82x : x79 = 0 := c82
          refine G_iconst (v := 0) C 90 dX10_isSoInThought_89 rfl rfl ?_
          exact G_zret C rfl dX10_isSoInThought_90 (⟨rfl, by
              have ex53b : x53 = q / 10 - 2 := by rw [ex53, ex51]
              unfold x_isSo; rw [if_neg c3, if_neg c25, ← ex53b, Nx53, nI_clamp (by omega), ← Sx74, ← ex78, ← x_isInE, ← h79]; exact k82x.symm⟩)
        ·
          have k82 := g_neT h79 c82
          have k82x : x79 = 1 := by
            rcases x_bit01 x74 x78 with z | z
            · exact absurd ((h79.trans (x_isInE _ _)).trans z) c82
            · exact (h79.trans (x_isInE _ _)).trans z
          refine G_iconst (v := 1) C 86 dX10_isSoInThought_85 rfl rfl ?_
          refine G_goto C 90 dX10_isSoInThought_86 rfl ?_
          exact G_zret C rfl dX10_isSoInThought_90 (⟨rfl, by
              have ex53b : x53 = q / 10 - 2 := by rw [ex53, ex51]
              unfold x_isSo; rw [if_neg c3, if_neg c25, ← ex53b, Nx53, nI_clamp (by omega), ← Sx74, ← ex78, ← x_isInE, ← h79]; exact k82x.symm⟩)
    ·
      refine G_aload_n (i := 0) C 29 dX10_isSoInThought_28 rfl rfl rfl ?_
      refine X10_61g C 32 dX10_isSoInThought_29 rfl ?_
      refine X10_100g C (Or.inr (Or.inl rfl)) 35 dX10_isSoInThought_32 rfl (fun x32 ex32 => ?_)
      have Sx32 : x32 = P 0 2 := ex32.trans (cI_v i 0 2)
      obtain ⟨mx32, hmx32, emx32⟩ := i.2.2.1.2.2.2.2.2.2.2.1
      refine G_iload_n (i := 1) C 36 dX10_isSoInThought_35 rfl rfl rfl ?_
      refine G_calli 39 (G_runS C Kc_X10_isIn KS_X10_199 (by omega) (c_X10_isIn 0 x32 q s) rfl rfl (Nat.le_of_ble_eq_true rfl) rfl dX10_isSoInThought_36) rfl (fun x36 s36 h36 => ?_)
      obtain ⟨es36, h36⟩ := h36
      have es36 := es36.symm
      subst es36
      have Bx36 : x36 = x_bit x32 q := h36.trans (x_isInE _ _)
      refine G_if_ne C 46 42 dX10_isSoInThought_39 rfl rfl (fun c39 => ?_) (fun c39 => ?_)
      ·
        have k39 := g_neT h36 c39
        refine G_iconst (v := 0) C 47 dX10_isSoInThought_46 rfl rfl ?_
        exact G_zret C rfl dX10_isSoInThought_47 (⟨rfl, by unfold x_isSo; rw [if_neg c3, if_pos c25, ← Sx32, ← x_isInE, ← h36, if_neg c39]⟩)
      ·
        have k39 := h36.symm.trans c39
        refine G_iconst (v := 1) C 43 dX10_isSoInThought_42 rfl rfl ?_
        refine G_goto C 47 dX10_isSoInThought_43 rfl ?_
        exact G_zret C rfl dX10_isSoInThought_47 (⟨rfl, by unfold x_isSo; rw [if_neg c3, if_pos c25, ← Sx32, ← x_isInE, ← h36, if_pos c39]⟩)
  ·
    refine G_aload_n (i := 0) C 7 dX10_isSoInThought_6 rfl rfl rfl ?_
    refine X10_61g C 10 dX10_isSoInThought_7 rfl ?_
    refine X10_100g C (Or.inr (Or.inl rfl)) 13 dX10_isSoInThought_10 rfl (fun x10 ex10 => ?_)
    have Sx10 : x10 = P 0 2 := ex10.trans (cI_v i 0 2)
    obtain ⟨mx10, hmx10, emx10⟩ := i.2.2.1.2.2.2.2.2.2.2.1
    refine G_if_ne C 20 16 dX10_isSoInThought_13 rfl rfl (fun c13 => ?_) (fun c13 => ?_)
    ·
      have n13 : ¬ mx10 = 0 := fun h => c13 ((g_eqN (a := mx10) (b := 0) (hx := (Sx10.trans emx10)) (hy := rfl) (by omega) (by omega)).mpr h)
      refine G_iconst (v := 0) C 21 dX10_isSoInThought_20 rfl rfl ?_
      exact G_zret C rfl dX10_isSoInThought_21 (⟨rfl, by unfold x_isSo; rw [if_pos c3, if_neg (fun z => c13 (Sx10.trans z))]⟩)
    ·
      have n13 : mx10 = 0 := (g_eqN (a := mx10) (b := 0) (hx := (Sx10.trans emx10)) (hy := rfl) (by omega) (by omega)).mp c13
      refine G_iconst (v := 1) C 17 dX10_isSoInThought_16 rfl rfl ?_
      refine G_goto C 21 dX10_isSoInThought_17 rfl ?_
      exact G_zret C rfl dX10_isSoInThought_21 (⟨rfl, by unfold x_isSo; rw [if_pos c3, if_pos (Sx10.symm.trans c13)]⟩)
theorem dX10_when_0 : decode cX10_when 0 = .ok (.iload_n 1, 1) := by decide +kernel
theorem dX10_when_1 : decode cX10_when 1 = .ok (.bipush 20, 2) := by decide +kernel
theorem dX10_when_3 : decode cX10_when 3 = .ok (.if_icmp .lt 23, 3) := by decide +kernel
theorem dX10_when_6 : decode cX10_when 6 = .ok (.aload_n 0, 1) := by decide +kernel
theorem dX10_when_7 : decode cX10_when 7 = .ok (.getfield 57, 3) := by decide +kernel
theorem dX10_when_10 : decode cX10_when 10 = .ok (.iload_n 1, 1) := by decide +kernel
theorem dX10_when_11 : decode cX10_when 11 = .ok (.bipush 10, 2) := by decide +kernel
theorem dX10_when_13 : decode cX10_when 13 = .ok (.idiv, 1) := by decide +kernel
theorem dX10_when_14 : decode cX10_when 14 = .ok (.iconst 2, 1) := by decide +kernel
theorem dX10_when_15 : decode cX10_when 15 = .ok (.isub, 1) := by decide +kernel
theorem dX10_when_16 : decode cX10_when 16 = .ok (.invokevirtual 139, 3) := by decide +kernel
theorem dX10_when_19 : decode cX10_when 19 = .ok (.ifCond .eq 7, 3) := by decide +kernel
theorem dX10_when_22 : decode cX10_when 22 = .ok (.iconst 1, 1) := by decide +kernel
theorem dX10_when_23 : decode cX10_when 23 = .ok (.goto 4, 3) := by decide +kernel
theorem dX10_when_26 : decode cX10_when 26 = .ok (.iconst 0, 1) := by decide +kernel
theorem dX10_when_27 : decode cX10_when 27 = .ok (.istore_n 2, 1) := by decide +kernel
theorem dX10_when_28 : decode cX10_when 28 = .ok (.iload_n 1, 1) := by decide +kernel
theorem dX10_when_29 : decode cX10_when 29 = .ok (.iconst 0, 1) := by decide +kernel
theorem dX10_when_30 : decode cX10_when 30 = .ok (.bipush 10, 2) := by decide +kernel
theorem dX10_when_32 : decode cX10_when 32 = .ok (.invokestatic 112, 3) := by decide +kernel
theorem dX10_when_35 : decode cX10_when 35 = .ok (.ifCond .ne 10, 3) := by decide +kernel
theorem dX10_when_38 : decode cX10_when 38 = .ok (.iload_n 2, 1) := by decide +kernel
theorem dX10_when_39 : decode cX10_when 39 = .ok (.ifCond .ne 6, 3) := by decide +kernel
theorem dX10_when_42 : decode cX10_when 42 = .ok (.bipush (-7), 2) := by decide +kernel
theorem dX10_when_44 : decode cX10_when 44 = .ok (.ireturn, 1) := by decide +kernel
theorem dX10_when_45 : decode cX10_when 45 = .ok (.aload_n 0, 1) := by decide +kernel
theorem dX10_when_46 : decode cX10_when 46 = .ok (.getfield 61, 3) := by decide +kernel
theorem dX10_when_49 : decode cX10_when 49 = .ok (.aload_n 0, 1) := by decide +kernel
theorem dX10_when_50 : decode cX10_when 50 = .ok (.getfield 57, 3) := by decide +kernel
theorem dX10_when_53 : decode cX10_when 53 = .ok (.invokevirtual 174, 3) := by decide +kernel
theorem dX10_when_56 : decode cX10_when 56 = .ok (.iconst 0, 1) := by decide +kernel
theorem dX10_when_57 : decode cX10_when 57 = .ok (.istore_n 3, 1) := by decide +kernel
theorem dX10_when_58 : decode cX10_when 58 = .ok (.iload_n 3, 1) := by decide +kernel
theorem dX10_when_59 : decode cX10_when 59 = .ok (.bipush 60, 2) := by decide +kernel
theorem dX10_when_61 : decode cX10_when 61 = .ok (.if_icmp .gt 27, 3) := by decide +kernel
theorem dX10_when_64 : decode cX10_when 64 = .ok (.aload_n 0, 1) := by decide +kernel
theorem dX10_when_65 : decode cX10_when 65 = .ok (.iload_n 1, 1) := by decide +kernel
theorem dX10_when_66 : decode cX10_when 66 = .ok (.invokevirtual 190, 3) := by decide +kernel
theorem dX10_when_69 : decode cX10_when 69 = .ok (.ifCond .eq 5, 3) := by decide +kernel
theorem dX10_when_72 : decode cX10_when 72 = .ok (.iload_n 3, 1) := by decide +kernel
theorem dX10_when_73 : decode cX10_when 73 = .ok (.ireturn, 1) := by decide +kernel
theorem dX10_when_74 : decode cX10_when 74 = .ok (.aload_n 0, 1) := by decide +kernel
theorem dX10_when_75 : decode cX10_when 75 = .ok (.getfield 61, 3) := by decide +kernel
theorem dX10_when_78 : decode cX10_when 78 = .ok (.invokevirtual 171, 3) := by decide +kernel
theorem dX10_when_81 : decode cX10_when 81 = .ok (.pop, 1) := by decide +kernel
theorem dX10_when_82 : decode cX10_when 82 = .ok (.iinc 3 1, 3) := by decide +kernel
theorem dX10_when_85 : decode cX10_when 85 = .ok (.goto (-27), 3) := by decide +kernel
theorem dX10_when_88 : decode cX10_when 88 = .ok (.iconst (-1), 1) := by decide +kernel
theorem dX10_when_89 : decode cX10_when 89 = .ok (.ireturn, 1) := by decide +kernel
set_option maxHeartbeats 4000000 in
set_option maxRecDepth 100000 in
theorem c_X10_when (d : Nat) (TX : gTX) (P B s : gS) (hR0 : RC TX P B s) (q : Int32) : gMt SC yX10_when cX10_when 4 (some .int) (d + 9) (fun ad => [.ref (ad 0), .int q]) s (gQi SC (fun r s' => RC TX P B s' ∧ r = s_when TX P q)) := by
  obtain ⟨nT, n, l, hR⟩ := hR0
  have hI := hR.1
  have hn6 : n ≤ 6 := hI.2.2.1.2.1
  have hl6 : l < 6 := cI_l6 hI
  have hxn : x_n P = n := x_nOf hI.2.2.1.1 hn6
  have hbI := hR.2.2
  refine gMt_of SC_ok (by decide +kernel) (fun ad => [some (.ref (ad 0)), some (.int q), none, none]) (fun _ => rfl) (fun _ => rfl) (fun _ => Nat.le_of_ble_eq_true rfl) (fun E C0 => ?_)
  have C : gCx SC E RX10 cX10_when 4 (some .int) (d + 9) := C0
  have fm : cI TX nT n l 45 P s := hI
  have fq : Fr mQ s s := Fr.rf
  refine G_iload_n (i := 1) C 1 dX10_when_0 rfl rfl rfl ?_
  refine G_bipush (v := 20) C 3 dX10_when_1 rfl rfl ?_
  refine G_icmp_lt C 26 6 dX10_when_3 rfl rfl (fun c3 => ?_) (fun c3 => ?_)
  ·
    refine G_iconst (v := 0) C 27 dX10_when_26 rfl rfl ?_
    refine G_istore_n (i := 2) (L' := [some (.ref (e_ad E 0)), some (.int q), some (.int 0), none]) C 28 dX10_when_27 rfl rfl (Nat.le_of_ble_eq_true rfl) rfl rfl ?_
    refine G_iload_n (i := 1) C 29 dX10_when_28 rfl rfl rfl ?_
    refine G_iconst (v := 0) C 30 dX10_when_29 rfl rfl ?_
    refine G_bipush (v := 10) C 32 dX10_when_30 rfl rfl ?_
    refine G_calli 35 (G_runS C Kc_X10_within KS_X10_112 (by omega) (c_X10_within 0 q 0 10 s) rfl rfl (Nat.le_of_ble_eq_true rfl) rfl dX10_when_32) rfl (fun x32 s32 h32 => ?_)
    obtain ⟨es32, h32⟩ := h32
    have es32 := es32.symm
    subst es32
    refine G_if_ne C 45 38 dX10_when_35 rfl rfl (fun c35 => ?_) (fun c35 => ?_)
    ·
      have k35 := g_neT h32 c35
      have hq : ¬ x_in q 0 10 = 0 ∨ ¬ x_one (q / 10 - 2) n = 0 := Or.inl k35
      have hok : ¬ s_whOk P q = 0 := by unfold s_whOk; rw [if_neg k35]; decide
      refine G_aload_n (i := 0) C 46 dX10_when_45 rfl rfl rfl ?_
      refine X10_61g C 49 dX10_when_46 rfl ?_
      refine G_aload_n (i := 0) C 50 dX10_when_49 rfl rfl rfl ?_
      refine X10_57g C 53 dX10_when_50 rfl ?_
      refine G_callv 56 (G_runV C Kc_X9_become KV_X10_174 (by omega) (lW0 (Or.inr (Or.inl rfl))) (eW _ _ _ (Or.inr (Or.inl rfl))) rfl (c_X9_become 0 54 45 (Or.inr (Or.inl rfl)) (Or.inl rfl) (by decide) s) rfl rfl rfl (Nat.le_of_ble_eq_true rfl) rfl dX10_when_53) rfl (fun s53 h53 => ?_)
      have fm_1 : cI TX nT n l 45 P s53 := cI_q fm (h53.1.UQ)
      have fq_1 : Fr mQ s s53 := Fr.tr fq (h53.1.UQ)
      have i_1 : cI TX nT n l 54 P s53 := cI_bec fm_1 h53.1 h53.2
      refine G_iconst (v := 0) C 57 dX10_when_56 rfl rfl ?_
      refine G_istore_n (i := 3) (L' := [some (.ref (e_ad E 0)), some (.int q), some (.int 0), some (.int 0)]) C 58 dX10_when_57 rfl rfl (Nat.le_of_ble_eq_true rfl) rfl rfl ?_
      have L58 : ∀ (f58 : Nat) (k : Nat) (y : Int32) (sl58 : gS) (Ey : y = nI k) (hk : k ≤ 61) (hw : x_when TX P q 61 0 = x_when TX P q (61 - k) k) (fml58 : cI TX nT n l 45 P sl58) (fql58 : Fr mQ s sl58) (il58 : cI TX nT n l 54 (x_run TX k P) sl58), 61 < k + f58 → GW SC E (gFin SC E (gQi SC (fun r s' => RC TX P B s' ∧ r = s_when TX P q))) 58 [some (.ref (e_ad E 0)), some (.int q), some (.int 0), some (.int y)] [] sl58 := by
        intro f58
        induction f58 with
        | zero =>
          intro k y sl58 Ey hk hw fml58 fql58 il58 hf58
          exact absurd hf58 (by omega)
        | succ f58 ih58 =>
          intro k y sl58 Ey hk hw fml58 fql58 il58 hf58
          refine G_iload_n (i := 3) C 59 dX10_when_58 rfl rfl rfl ?_
          refine G_bipush (v := 60) C 61 dX10_when_59 rfl rfl ?_
          refine G_icmp_gt C 88 64 dX10_when_61 rfl rfl (fun c61 => ?_) (fun c61 => ?_)
          ·
            have n61 : 60 < k := (g_ltN (a := 60) (b := k) (hx := rfl) (hy := Ey) (by omega) (by omega)).mp c61
            refine G_iconst (v := (-1)) C 89 dX10_when_88 rfl rfl ?_
            exact G_iret C dX10_when_89 (⟨RC_q hR fql58, by unfold s_when; rw [if_neg hok, hw, show 61 - k = 0 by omega]; rfl⟩)
          ·
            have n61 : ¬ 60 < k := fun h => c61 ((g_ltN (a := 60) (b := k) (hx := rfl) (hy := Ey) (by omega) (by omega)).mpr h)
            refine G_aload_n (i := 0) C 65 dX10_when_64 rfl rfl rfl ?_
            refine G_iload_n (i := 1) C 66 dX10_when_65 rfl rfl rfl ?_
            refine G_calli 69 (G_runV C Kc_X10_isSoInThought KV_X10_190 (by omega) (by decide) (eC _ _ _) rfl (c_X10_isSoInThought 0 TX nT n l (x_run TX k P) sl58 il58 q hq) rfl rfl rfl (Nat.le_of_ble_eq_true rfl) rfl dX10_when_66) rfl (fun x66 s66 h66 => ?_)
            obtain ⟨es66, h66⟩ := h66
            have es66 := es66.symm
            subst es66
            refine G_if_eq C 74 72 dX10_when_69 rfl rfl (fun c69 => ?_) (fun c69 => ?_)
            ·
              have k69 := h66.symm.trans c69
              refine G_aload_n (i := 0) C 75 dX10_when_74 rfl rfl rfl ?_
              refine X10_61g C 78 dX10_when_75 rfl ?_
              refine G_calli 81 (G_runV C Kc_X9_pass KV_X10_171 (by omega) (lW0 (Or.inr (Or.inl rfl))) (eW _ _ _ (Or.inr (Or.inl rfl))) rfl (c_X9_pass 0 TX nT n l 54 (x_run TX k P) sl58 il58) rfl rfl rfl (Nat.le_of_ble_eq_true rfl) rfl dX10_when_78) rfl (fun x78 s78 h78 => ?_)
              have fm_2 : cI TX nT n l 45 P s78 := cI_q fml58 (h78.1.Q)
              have fq_2 : Fr mQ s s78 := Fr.tr fql58 (h78.1.Q)
              have i_2 : cI TX nT n l 54 (x_run TX (k + 1) P) s78 := h78.2.1
              refine G_pop C 82 dX10_when_81 rfl rfl ?_
              refine G_iinc (w := 1) C 85 dX10_when_82 rfl rfl rfl rfl (fun x82 ex82 => ?_)
              have Nx82 : x82 = nI (k + 1) := g_addN ex82 Ey rfl
              show GW SC E _ 85 [some (.ref (e_ad E 0)), some (.int q), some (.int 0), some (.int x82)] [] s78
              refine G_goto C 58 dX10_when_85 rfl ?_
              exact ih58 (k + 1) x82 s78 (g_cn (a := (k + 1)) Nx82 (by first | rfl | omega | (simp only [List.length_cons, List.length_drop]; done) | (simp only [List.length_cons, List.length_drop]; omega))) (by omega) (by rw [hw, show 61 - k = (61 - (k + 1)) + 1 by omega, x_when, if_pos k69]) fm_2 fq_2 (i_2) (by omega)
            ·
              have k69 := g_neT h66 c69
              refine G_iload_n (i := 3) C 73 dX10_when_72 rfl rfl rfl ?_
              exact G_iret C dX10_when_73 (⟨RC_q hR fql58, by unfold s_when; rw [if_neg hok, hw, show 61 - k = (60 - k) + 1 by omega, x_when, if_neg k69]; exact Ey⟩)
      exact L58 (61 + 1) 0 0 s53 (g_cn (a := 0) rfl (by first | rfl | omega)) (by omega) (rfl) fm_1 fq_1 (i_1) (by omega)
    ·
      have k35 := h32.symm.trans c35
      refine G_iload_n (i := 2) C 39 dX10_when_38 rfl rfl rfl ?_
      refine G_if_ne C 45 42 dX10_when_39 rfl rfl (fun c => absurd c (by decide)) (fun _ => ?_)
      refine G_bipush (v := (-7)) C 44 dX10_when_42 rfl rfl ?_
      exact G_iret C dX10_when_44 (⟨RC_q hR fq, by unfold s_when s_whOk; rw [if_pos k35, if_pos c3, if_pos rfl]⟩)
  ·
    refine G_aload_n (i := 0) C 7 dX10_when_6 rfl rfl rfl ?_
    refine X10_57g C 10 dX10_when_7 rfl ?_
    refine G_iload_n (i := 1) C 11 dX10_when_10 rfl rfl rfl ?_
    refine G_bipush (v := 10) C 13 dX10_when_11 rfl rfl ?_
    refine G_idiv C 14 dX10_when_13 rfl (by decide) (fun x13 ex13 => ?_)
    refine G_iconst (v := 2) C 15 dX10_when_14 rfl rfl ?_
    refine G_isub C 16 dX10_when_15 rfl (fun x15 ex15 => ?_)
    refine G_calli 19 (G_runV C Kc_X9_isOne KV_X10_139 (by omega) (lW0 (Or.inl rfl)) (eW _ _ _ (Or.inl rfl)) rfl (c_X9_isOne 0 45 n (Or.inl rfl) s (cI_n fm) x15) rfl rfl rfl (Nat.le_of_ble_eq_true rfl) rfl dX10_when_16) rfl (fun x16 s16 h16 => ?_)
    obtain ⟨es16, h16⟩ := h16
    have es16 := es16.symm
    subst es16
    refine G_if_eq C 26 22 dX10_when_19 rfl rfl (fun c19 => ?_) (fun c19 => ?_)
    ·
      have k19 := h16.symm.trans c19
      refine G_iconst (v := 0) C 27 dX10_when_26 rfl rfl ?_
      refine G_istore_n (i := 2) (L' := [some (.ref (e_ad E 0)), some (.int q), some (.int 0), none]) C 28 dX10_when_27 rfl rfl (Nat.le_of_ble_eq_true rfl) rfl rfl ?_
      refine G_iload_n (i := 1) C 29 dX10_when_28 rfl rfl rfl ?_
      refine G_iconst (v := 0) C 30 dX10_when_29 rfl rfl ?_
      refine G_bipush (v := 10) C 32 dX10_when_30 rfl rfl ?_
      refine G_calli 35 (G_runS C Kc_X10_within KS_X10_112 (by omega) (c_X10_within 0 q 0 10 s) rfl rfl (Nat.le_of_ble_eq_true rfl) rfl dX10_when_32) rfl (fun x32 s32 h32 => ?_)
      obtain ⟨es32, h32⟩ := h32
      have es32 := es32.symm
      subst es32
      refine G_if_ne C 45 38 dX10_when_35 rfl rfl (fun c35 => ?_) (fun c35 => ?_)
      ·
        have k35 := g_neT h32 c35
        have hq : ¬ x_in q 0 10 = 0 ∨ ¬ x_one (q / 10 - 2) n = 0 := Or.inl k35
        have hok : ¬ s_whOk P q = 0 := by unfold s_whOk; rw [if_neg k35]; decide
        refine G_aload_n (i := 0) C 46 dX10_when_45 rfl rfl rfl ?_
        refine X10_61g C 49 dX10_when_46 rfl ?_
        refine G_aload_n (i := 0) C 50 dX10_when_49 rfl rfl rfl ?_
        refine X10_57g C 53 dX10_when_50 rfl ?_
        refine G_callv 56 (G_runV C Kc_X9_become KV_X10_174 (by omega) (lW0 (Or.inr (Or.inl rfl))) (eW _ _ _ (Or.inr (Or.inl rfl))) rfl (c_X9_become 0 54 45 (Or.inr (Or.inl rfl)) (Or.inl rfl) (by decide) s) rfl rfl rfl (Nat.le_of_ble_eq_true rfl) rfl dX10_when_53) rfl (fun s53 h53 => ?_)
        have fm_1 : cI TX nT n l 45 P s53 := cI_q fm (h53.1.UQ)
        have fq_1 : Fr mQ s s53 := Fr.tr fq (h53.1.UQ)
        have i_1 : cI TX nT n l 54 P s53 := cI_bec fm_1 h53.1 h53.2
        refine G_iconst (v := 0) C 57 dX10_when_56 rfl rfl ?_
        refine G_istore_n (i := 3) (L' := [some (.ref (e_ad E 0)), some (.int q), some (.int 0), some (.int 0)]) C 58 dX10_when_57 rfl rfl (Nat.le_of_ble_eq_true rfl) rfl rfl ?_
        have L58 : ∀ (f58 : Nat) (k : Nat) (y : Int32) (sl58 : gS) (Ey : y = nI k) (hk : k ≤ 61) (hw : x_when TX P q 61 0 = x_when TX P q (61 - k) k) (fml58 : cI TX nT n l 45 P sl58) (fql58 : Fr mQ s sl58) (il58 : cI TX nT n l 54 (x_run TX k P) sl58), 61 < k + f58 → GW SC E (gFin SC E (gQi SC (fun r s' => RC TX P B s' ∧ r = s_when TX P q))) 58 [some (.ref (e_ad E 0)), some (.int q), some (.int 0), some (.int y)] [] sl58 := by
          intro f58
          induction f58 with
          | zero =>
            intro k y sl58 Ey hk hw fml58 fql58 il58 hf58
            exact absurd hf58 (by omega)
          | succ f58 ih58 =>
            intro k y sl58 Ey hk hw fml58 fql58 il58 hf58
            refine G_iload_n (i := 3) C 59 dX10_when_58 rfl rfl rfl ?_
            refine G_bipush (v := 60) C 61 dX10_when_59 rfl rfl ?_
            refine G_icmp_gt C 88 64 dX10_when_61 rfl rfl (fun c61 => ?_) (fun c61 => ?_)
            ·
              have n61 : 60 < k := (g_ltN (a := 60) (b := k) (hx := rfl) (hy := Ey) (by omega) (by omega)).mp c61
              refine G_iconst (v := (-1)) C 89 dX10_when_88 rfl rfl ?_
              exact G_iret C dX10_when_89 (⟨RC_q hR fql58, by unfold s_when; rw [if_neg hok, hw, show 61 - k = 0 by omega]; rfl⟩)
            ·
              have n61 : ¬ 60 < k := fun h => c61 ((g_ltN (a := 60) (b := k) (hx := rfl) (hy := Ey) (by omega) (by omega)).mpr h)
              refine G_aload_n (i := 0) C 65 dX10_when_64 rfl rfl rfl ?_
              refine G_iload_n (i := 1) C 66 dX10_when_65 rfl rfl rfl ?_
              refine G_calli 69 (G_runV C Kc_X10_isSoInThought KV_X10_190 (by omega) (by decide) (eC _ _ _) rfl (c_X10_isSoInThought 0 TX nT n l (x_run TX k P) sl58 il58 q hq) rfl rfl rfl (Nat.le_of_ble_eq_true rfl) rfl dX10_when_66) rfl (fun x66 s66 h66 => ?_)
              obtain ⟨es66, h66⟩ := h66
              have es66 := es66.symm
              subst es66
              refine G_if_eq C 74 72 dX10_when_69 rfl rfl (fun c69 => ?_) (fun c69 => ?_)
              ·
                have k69 := h66.symm.trans c69
                refine G_aload_n (i := 0) C 75 dX10_when_74 rfl rfl rfl ?_
                refine X10_61g C 78 dX10_when_75 rfl ?_
                refine G_calli 81 (G_runV C Kc_X9_pass KV_X10_171 (by omega) (lW0 (Or.inr (Or.inl rfl))) (eW _ _ _ (Or.inr (Or.inl rfl))) rfl (c_X9_pass 0 TX nT n l 54 (x_run TX k P) sl58 il58) rfl rfl rfl (Nat.le_of_ble_eq_true rfl) rfl dX10_when_78) rfl (fun x78 s78 h78 => ?_)
                have fm_2 : cI TX nT n l 45 P s78 := cI_q fml58 (h78.1.Q)
                have fq_2 : Fr mQ s s78 := Fr.tr fql58 (h78.1.Q)
                have i_2 : cI TX nT n l 54 (x_run TX (k + 1) P) s78 := h78.2.1
                refine G_pop C 82 dX10_when_81 rfl rfl ?_
                refine G_iinc (w := 1) C 85 dX10_when_82 rfl rfl rfl rfl (fun x82 ex82 => ?_)
                have Nx82 : x82 = nI (k + 1) := g_addN ex82 Ey rfl
                show GW SC E _ 85 [some (.ref (e_ad E 0)), some (.int q), some (.int 0), some (.int x82)] [] s78
                refine G_goto C 58 dX10_when_85 rfl ?_
                exact ih58 (k + 1) x82 s78 (g_cn (a := (k + 1)) Nx82 (by first | rfl | omega | (simp only [List.length_cons, List.length_drop]; done) | (simp only [List.length_cons, List.length_drop]; omega))) (by omega) (by rw [hw, show 61 - k = (61 - (k + 1)) + 1 by omega, x_when, if_pos k69]) fm_2 fq_2 (i_2) (by omega)
              ·
                have k69 := g_neT h66 c69
                refine G_iload_n (i := 3) C 73 dX10_when_72 rfl rfl rfl ?_
                exact G_iret C dX10_when_73 (⟨RC_q hR fql58, by unfold s_when; rw [if_neg hok, hw, show 61 - k = (60 - k) + 1 by omega, x_when, if_neg k69]; exact Ey⟩)
        exact L58 (61 + 1) 0 0 s53 (g_cn (a := 0) rfl (by first | rfl | omega)) (by omega) (rfl) fm_1 fq_1 (i_1) (by omega)
      ·
        have k35 := h32.symm.trans c35
        refine G_iload_n (i := 2) C 39 dX10_when_38 rfl rfl rfl ?_
        refine G_if_ne C 45 42 dX10_when_39 rfl rfl (fun c => absurd c (by decide)) (fun _ => ?_)
        refine G_bipush (v := (-7)) C 44 dX10_when_42 rfl rfl ?_
        exact G_iret C dX10_when_44 (⟨RC_q hR fq, by unfold s_when s_whOk; rw [if_pos k35, if_neg c3, hxn, ← ex13, ← ex15, if_pos k19]⟩)
    ·
      have k19 := g_neT h16 c19
      refine G_iconst (v := 1) C 23 dX10_when_22 rfl rfl ?_
      refine G_goto C 27 dX10_when_23 rfl ?_
      refine G_istore_n (i := 2) (L' := [some (.ref (e_ad E 0)), some (.int q), some (.int 1), none]) C 28 dX10_when_27 rfl rfl (Nat.le_of_ble_eq_true rfl) rfl rfl ?_
      refine G_iload_n (i := 1) C 29 dX10_when_28 rfl rfl rfl ?_
      refine G_iconst (v := 0) C 30 dX10_when_29 rfl rfl ?_
      refine G_bipush (v := 10) C 32 dX10_when_30 rfl rfl ?_
      refine G_calli 35 (G_runS C Kc_X10_within KS_X10_112 (by omega) (c_X10_within 0 q 0 10 s) rfl rfl (Nat.le_of_ble_eq_true rfl) rfl dX10_when_32) rfl (fun x32 s32 h32 => ?_)
      obtain ⟨es32, h32⟩ := h32
      have es32 := es32.symm
      subst es32
      refine G_if_ne C 45 38 dX10_when_35 rfl rfl (fun c35 => ?_) (fun c35 => ?_)
      ·
        have k35 := g_neT h32 c35
        have hq : ¬ x_in q 0 10 = 0 ∨ ¬ x_one (q / 10 - 2) n = 0 := Or.inl k35
        have hok : ¬ s_whOk P q = 0 := by unfold s_whOk; rw [if_neg k35]; decide
        refine G_aload_n (i := 0) C 46 dX10_when_45 rfl rfl rfl ?_
        refine X10_61g C 49 dX10_when_46 rfl ?_
        refine G_aload_n (i := 0) C 50 dX10_when_49 rfl rfl rfl ?_
        refine X10_57g C 53 dX10_when_50 rfl ?_
        refine G_callv 56 (G_runV C Kc_X9_become KV_X10_174 (by omega) (lW0 (Or.inr (Or.inl rfl))) (eW _ _ _ (Or.inr (Or.inl rfl))) rfl (c_X9_become 0 54 45 (Or.inr (Or.inl rfl)) (Or.inl rfl) (by decide) s) rfl rfl rfl (Nat.le_of_ble_eq_true rfl) rfl dX10_when_53) rfl (fun s53 h53 => ?_)
        have fm_1 : cI TX nT n l 45 P s53 := cI_q fm (h53.1.UQ)
        have fq_1 : Fr mQ s s53 := Fr.tr fq (h53.1.UQ)
        have i_1 : cI TX nT n l 54 P s53 := cI_bec fm_1 h53.1 h53.2
        refine G_iconst (v := 0) C 57 dX10_when_56 rfl rfl ?_
        refine G_istore_n (i := 3) (L' := [some (.ref (e_ad E 0)), some (.int q), some (.int 1), some (.int 0)]) C 58 dX10_when_57 rfl rfl (Nat.le_of_ble_eq_true rfl) rfl rfl ?_
        have L58 : ∀ (f58 : Nat) (k : Nat) (y : Int32) (sl58 : gS) (Ey : y = nI k) (hk : k ≤ 61) (hw : x_when TX P q 61 0 = x_when TX P q (61 - k) k) (fml58 : cI TX nT n l 45 P sl58) (fql58 : Fr mQ s sl58) (il58 : cI TX nT n l 54 (x_run TX k P) sl58), 61 < k + f58 → GW SC E (gFin SC E (gQi SC (fun r s' => RC TX P B s' ∧ r = s_when TX P q))) 58 [some (.ref (e_ad E 0)), some (.int q), some (.int 1), some (.int y)] [] sl58 := by
          intro f58
          induction f58 with
          | zero =>
            intro k y sl58 Ey hk hw fml58 fql58 il58 hf58
            exact absurd hf58 (by omega)
          | succ f58 ih58 =>
            intro k y sl58 Ey hk hw fml58 fql58 il58 hf58
            refine G_iload_n (i := 3) C 59 dX10_when_58 rfl rfl rfl ?_
            refine G_bipush (v := 60) C 61 dX10_when_59 rfl rfl ?_
            refine G_icmp_gt C 88 64 dX10_when_61 rfl rfl (fun c61 => ?_) (fun c61 => ?_)
            ·
              have n61 : 60 < k := (g_ltN (a := 60) (b := k) (hx := rfl) (hy := Ey) (by omega) (by omega)).mp c61
              refine G_iconst (v := (-1)) C 89 dX10_when_88 rfl rfl ?_
              exact G_iret C dX10_when_89 (⟨RC_q hR fql58, by unfold s_when; rw [if_neg hok, hw, show 61 - k = 0 by omega]; rfl⟩)
            ·
              have n61 : ¬ 60 < k := fun h => c61 ((g_ltN (a := 60) (b := k) (hx := rfl) (hy := Ey) (by omega) (by omega)).mpr h)
              refine G_aload_n (i := 0) C 65 dX10_when_64 rfl rfl rfl ?_
              refine G_iload_n (i := 1) C 66 dX10_when_65 rfl rfl rfl ?_
              refine G_calli 69 (G_runV C Kc_X10_isSoInThought KV_X10_190 (by omega) (by decide) (eC _ _ _) rfl (c_X10_isSoInThought 0 TX nT n l (x_run TX k P) sl58 il58 q hq) rfl rfl rfl (Nat.le_of_ble_eq_true rfl) rfl dX10_when_66) rfl (fun x66 s66 h66 => ?_)
              obtain ⟨es66, h66⟩ := h66
              have es66 := es66.symm
              subst es66
              refine G_if_eq C 74 72 dX10_when_69 rfl rfl (fun c69 => ?_) (fun c69 => ?_)
              ·
                have k69 := h66.symm.trans c69
                refine G_aload_n (i := 0) C 75 dX10_when_74 rfl rfl rfl ?_
                refine X10_61g C 78 dX10_when_75 rfl ?_
                refine G_calli 81 (G_runV C Kc_X9_pass KV_X10_171 (by omega) (lW0 (Or.inr (Or.inl rfl))) (eW _ _ _ (Or.inr (Or.inl rfl))) rfl (c_X9_pass 0 TX nT n l 54 (x_run TX k P) sl58 il58) rfl rfl rfl (Nat.le_of_ble_eq_true rfl) rfl dX10_when_78) rfl (fun x78 s78 h78 => ?_)
                have fm_2 : cI TX nT n l 45 P s78 := cI_q fml58 (h78.1.Q)
                have fq_2 : Fr mQ s s78 := Fr.tr fql58 (h78.1.Q)
                have i_2 : cI TX nT n l 54 (x_run TX (k + 1) P) s78 := h78.2.1
                refine G_pop C 82 dX10_when_81 rfl rfl ?_
                refine G_iinc (w := 1) C 85 dX10_when_82 rfl rfl rfl rfl (fun x82 ex82 => ?_)
                have Nx82 : x82 = nI (k + 1) := g_addN ex82 Ey rfl
                show GW SC E _ 85 [some (.ref (e_ad E 0)), some (.int q), some (.int 1), some (.int x82)] [] s78
                refine G_goto C 58 dX10_when_85 rfl ?_
                exact ih58 (k + 1) x82 s78 (g_cn (a := (k + 1)) Nx82 (by first | rfl | omega | (simp only [List.length_cons, List.length_drop]; done) | (simp only [List.length_cons, List.length_drop]; omega))) (by omega) (by rw [hw, show 61 - k = (61 - (k + 1)) + 1 by omega, x_when, if_pos k69]) fm_2 fq_2 (i_2) (by omega)
              ·
                have k69 := g_neT h66 c69
                refine G_iload_n (i := 3) C 73 dX10_when_72 rfl rfl rfl ?_
                exact G_iret C dX10_when_73 (⟨RC_q hR fql58, by unfold s_when; rw [if_neg hok, hw, show 61 - k = (60 - k) + 1 by omega, x_when, if_neg k69]; exact Ey⟩)
        exact L58 (61 + 1) 0 0 s53 (g_cn (a := 0) rfl (by first | rfl | omega)) (by omega) (rfl) fm_1 fq_1 (i_1) (by omega)
      ·
        have k35 := h32.symm.trans c35
        refine G_iload_n (i := 2) C 39 dX10_when_38 rfl rfl rfl ?_
        refine G_if_ne C 45 42 dX10_when_39 rfl rfl (fun _ => ?_) (fun c => absurd c (by decide))
        have hq : ¬ x_in q 0 10 = 0 ∨ ¬ x_one (q / 10 - 2) n = 0 := Or.inr (by rw [← ex13, ← ex15]; exact k19)
        have hok : ¬ s_whOk P q = 0 := by unfold s_whOk; rw [if_pos k35, if_neg c3, hxn, ← ex13, ← ex15]; exact k19
        refine G_aload_n (i := 0) C 46 dX10_when_45 rfl rfl rfl ?_
        refine X10_61g C 49 dX10_when_46 rfl ?_
        refine G_aload_n (i := 0) C 50 dX10_when_49 rfl rfl rfl ?_
        refine X10_57g C 53 dX10_when_50 rfl ?_
        refine G_callv 56 (G_runV C Kc_X9_become KV_X10_174 (by omega) (lW0 (Or.inr (Or.inl rfl))) (eW _ _ _ (Or.inr (Or.inl rfl))) rfl (c_X9_become 0 54 45 (Or.inr (Or.inl rfl)) (Or.inl rfl) (by decide) s) rfl rfl rfl (Nat.le_of_ble_eq_true rfl) rfl dX10_when_53) rfl (fun s53 h53 => ?_)
        have fm_1 : cI TX nT n l 45 P s53 := cI_q fm (h53.1.UQ)
        have fq_1 : Fr mQ s s53 := Fr.tr fq (h53.1.UQ)
        have i_1 : cI TX nT n l 54 P s53 := cI_bec fm_1 h53.1 h53.2
        refine G_iconst (v := 0) C 57 dX10_when_56 rfl rfl ?_
        refine G_istore_n (i := 3) (L' := [some (.ref (e_ad E 0)), some (.int q), some (.int 1), some (.int 0)]) C 58 dX10_when_57 rfl rfl (Nat.le_of_ble_eq_true rfl) rfl rfl ?_
        have L58 : ∀ (f58 : Nat) (k : Nat) (y : Int32) (sl58 : gS) (Ey : y = nI k) (hk : k ≤ 61) (hw : x_when TX P q 61 0 = x_when TX P q (61 - k) k) (fml58 : cI TX nT n l 45 P sl58) (fql58 : Fr mQ s sl58) (il58 : cI TX nT n l 54 (x_run TX k P) sl58), 61 < k + f58 → GW SC E (gFin SC E (gQi SC (fun r s' => RC TX P B s' ∧ r = s_when TX P q))) 58 [some (.ref (e_ad E 0)), some (.int q), some (.int 1), some (.int y)] [] sl58 := by
          intro f58
          induction f58 with
          | zero =>
            intro k y sl58 Ey hk hw fml58 fql58 il58 hf58
            exact absurd hf58 (by omega)
          | succ f58 ih58 =>
            intro k y sl58 Ey hk hw fml58 fql58 il58 hf58
            refine G_iload_n (i := 3) C 59 dX10_when_58 rfl rfl rfl ?_
            refine G_bipush (v := 60) C 61 dX10_when_59 rfl rfl ?_
            refine G_icmp_gt C 88 64 dX10_when_61 rfl rfl (fun c61 => ?_) (fun c61 => ?_)
            ·
              have n61 : 60 < k := (g_ltN (a := 60) (b := k) (hx := rfl) (hy := Ey) (by omega) (by omega)).mp c61
              refine G_iconst (v := (-1)) C 89 dX10_when_88 rfl rfl ?_
              exact G_iret C dX10_when_89 (⟨RC_q hR fql58, by unfold s_when; rw [if_neg hok, hw, show 61 - k = 0 by omega]; rfl⟩)
            ·
              have n61 : ¬ 60 < k := fun h => c61 ((g_ltN (a := 60) (b := k) (hx := rfl) (hy := Ey) (by omega) (by omega)).mpr h)
              refine G_aload_n (i := 0) C 65 dX10_when_64 rfl rfl rfl ?_
              refine G_iload_n (i := 1) C 66 dX10_when_65 rfl rfl rfl ?_
              refine G_calli 69 (G_runV C Kc_X10_isSoInThought KV_X10_190 (by omega) (by decide) (eC _ _ _) rfl (c_X10_isSoInThought 0 TX nT n l (x_run TX k P) sl58 il58 q hq) rfl rfl rfl (Nat.le_of_ble_eq_true rfl) rfl dX10_when_66) rfl (fun x66 s66 h66 => ?_)
              obtain ⟨es66, h66⟩ := h66
              have es66 := es66.symm
              subst es66
              refine G_if_eq C 74 72 dX10_when_69 rfl rfl (fun c69 => ?_) (fun c69 => ?_)
              ·
                have k69 := h66.symm.trans c69
                refine G_aload_n (i := 0) C 75 dX10_when_74 rfl rfl rfl ?_
                refine X10_61g C 78 dX10_when_75 rfl ?_
                refine G_calli 81 (G_runV C Kc_X9_pass KV_X10_171 (by omega) (lW0 (Or.inr (Or.inl rfl))) (eW _ _ _ (Or.inr (Or.inl rfl))) rfl (c_X9_pass 0 TX nT n l 54 (x_run TX k P) sl58 il58) rfl rfl rfl (Nat.le_of_ble_eq_true rfl) rfl dX10_when_78) rfl (fun x78 s78 h78 => ?_)
                have fm_2 : cI TX nT n l 45 P s78 := cI_q fml58 (h78.1.Q)
                have fq_2 : Fr mQ s s78 := Fr.tr fql58 (h78.1.Q)
                have i_2 : cI TX nT n l 54 (x_run TX (k + 1) P) s78 := h78.2.1
                refine G_pop C 82 dX10_when_81 rfl rfl ?_
                refine G_iinc (w := 1) C 85 dX10_when_82 rfl rfl rfl rfl (fun x82 ex82 => ?_)
                have Nx82 : x82 = nI (k + 1) := g_addN ex82 Ey rfl
                show GW SC E _ 85 [some (.ref (e_ad E 0)), some (.int q), some (.int 1), some (.int x82)] [] s78
                refine G_goto C 58 dX10_when_85 rfl ?_
                exact ih58 (k + 1) x82 s78 (g_cn (a := (k + 1)) Nx82 (by first | rfl | omega | (simp only [List.length_cons, List.length_drop]; done) | (simp only [List.length_cons, List.length_drop]; omega))) (by omega) (by rw [hw, show 61 - k = (61 - (k + 1)) + 1 by omega, x_when, if_pos k69]) fm_2 fq_2 (i_2) (by omega)
              ·
                have k69 := g_neT h66 c69
                refine G_iload_n (i := 3) C 73 dX10_when_72 rfl rfl rfl ?_
                exact G_iret C dX10_when_73 (⟨RC_q hR fql58, by unfold s_when; rw [if_neg hok, hw, show 61 - k = (60 - k) + 1 by omega, x_when, if_neg k69]; exact Ey⟩)
        exact L58 (61 + 1) 0 0 s53 (g_cn (a := 0) rfl (by first | rfl | omega)) (by omega) (rfl) fm_1 fq_1 (i_1) (by omega)
theorem dX10_where_0 : decode cX10_where 0 = .ok (.iload_n 1, 1) := by decide +kernel
theorem dX10_where_1 : decode cX10_where 1 = .ok (.iconst 0, 1) := by decide +kernel
theorem dX10_where_2 : decode cX10_where 2 = .ok (.iconst 1, 1) := by decide +kernel
theorem dX10_where_3 : decode cX10_where 3 = .ok (.invokestatic 112, 3) := by decide +kernel
theorem dX10_where_6 : decode cX10_where 6 = .ok (.ifCond .ne 6, 3) := by decide +kernel
theorem dX10_where_9 : decode cX10_where 9 = .ok (.bipush (-2), 2) := by decide +kernel
theorem dX10_where_11 : decode cX10_where 11 = .ok (.ireturn, 1) := by decide +kernel
theorem dX10_where_12 : decode cX10_where 12 = .ok (.iconst 0, 1) := by decide +kernel
theorem dX10_where_13 : decode cX10_where 13 = .ok (.istore_n 2, 1) := by decide +kernel
theorem dX10_where_14 : decode cX10_where 14 = .ok (.iconst (-1), 1) := by decide +kernel
theorem dX10_where_15 : decode cX10_where 15 = .ok (.istore_n 3, 1) := by decide +kernel
theorem dX10_where_16 : decode cX10_where 16 = .ok (.iconst 0, 1) := by decide +kernel
theorem dX10_where_17 : decode cX10_where 17 = .ok (.istore 4, 2) := by decide +kernel
theorem dX10_where_19 : decode cX10_where 19 = .ok (.iload 4, 2) := by decide +kernel
theorem dX10_where_21 : decode cX10_where 21 = .ok (.bipush 9, 2) := by decide +kernel
theorem dX10_where_23 : decode cX10_where 23 = .ok (.if_icmp .ge 42, 3) := by decide +kernel
theorem dX10_where_26 : decode cX10_where 26 = .ok (.aload_n 0, 1) := by decide +kernel
theorem dX10_where_27 : decode cX10_where 27 = .ok (.getfield 57, 3) := by decide +kernel
theorem dX10_where_30 : decode cX10_where 30 = .ok (.iload 4, 2) := by decide +kernel
theorem dX10_where_32 : decode cX10_where 32 = .ok (.aload_n 0, 1) := by decide +kernel
theorem dX10_where_33 : decode cX10_where 33 = .ok (.getfield 57, 3) := by decide +kernel
theorem dX10_where_36 : decode cX10_where 36 = .ok (.getfield 100, 3) := by decide +kernel
theorem dX10_where_39 : decode cX10_where 39 = .ok (.invokevirtual 128, 3) := by decide +kernel
theorem dX10_where_42 : decode cX10_where 42 = .ok (.invokestatic 103, 3) := by decide +kernel
theorem dX10_where_45 : decode cX10_where 45 = .ok (.istore 5, 2) := by decide +kernel
theorem dX10_where_47 : decode cX10_where 47 = .ok (.iload 5, 2) := by decide +kernel
theorem dX10_where_49 : decode cX10_where 49 = .ok (.iload_n 3, 1) := by decide +kernel
theorem dX10_where_50 : decode cX10_where 50 = .ok (.if_icmp .le 9, 3) := by decide +kernel
theorem dX10_where_53 : decode cX10_where 53 = .ok (.iload 5, 2) := by decide +kernel
theorem dX10_where_55 : decode cX10_where 55 = .ok (.istore_n 3, 1) := by decide +kernel
theorem dX10_where_56 : decode cX10_where 56 = .ok (.iload 4, 2) := by decide +kernel
theorem dX10_where_58 : decode cX10_where 58 = .ok (.istore_n 2, 1) := by decide +kernel
theorem dX10_where_59 : decode cX10_where 59 = .ok (.iinc 4 1, 3) := by decide +kernel
theorem dX10_where_62 : decode cX10_where 62 = .ok (.goto (-43), 3) := by decide +kernel
theorem dX10_where_65 : decode cX10_where 65 = .ok (.iload_n 1, 1) := by decide +kernel
theorem dX10_where_66 : decode cX10_where 66 = .ok (.ifCond .ne 7, 3) := by decide +kernel
theorem dX10_where_69 : decode cX10_where 69 = .ok (.iload_n 2, 1) := by decide +kernel
theorem dX10_where_70 : decode cX10_where 70 = .ok (.goto 4, 3) := by decide +kernel
theorem dX10_where_73 : decode cX10_where 73 = .ok (.iload_n 3, 1) := by decide +kernel
theorem dX10_where_74 : decode cX10_where 74 = .ok (.ireturn, 1) := by decide +kernel
set_option maxHeartbeats 4000000 in
set_option maxRecDepth 100000 in
theorem c_X10_where (d : Nat) (TX : gTX) (P B s : gS) (hR0 : RC TX P B s) (q : Int32) : gMt SC yX10_where cX10_where 6 (some .int) (d + 8) (fun ad => [.ref (ad 0), .int q]) s (gQi SC (fun r s' => RC TX P B s' ∧ r = s_where TX P q)) := by
  obtain ⟨nT, n, l, hR⟩ := hR0
  have hI := hR.1
  have hn6 : n ≤ 6 := hI.2.2.1.2.1
  have hl6 : l < 6 := cI_l6 hI
  have hxn : x_n P = n := x_nOf hI.2.2.1.1 hn6
  have hbI := hR.2.2
  refine gMt_of SC_ok (by decide +kernel) (fun ad => [some (.ref (ad 0)), some (.int q), none, none, none, none]) (fun _ => rfl) (fun _ => rfl) (fun _ => Nat.le_of_ble_eq_true rfl) (fun E C0 => ?_)
  have C : gCx SC E RX10 cX10_where 6 (some .int) (d + 8) := C0
  have fm : cI TX nT n l 45 P s := hI
  have fq : Fr mQ s s := Fr.rf
  refine G_iload_n (i := 1) C 1 dX10_where_0 rfl rfl rfl ?_
  refine G_iconst (v := 0) C 2 dX10_where_1 rfl rfl ?_
  refine G_iconst (v := 1) C 3 dX10_where_2 rfl rfl ?_
  refine G_calli 6 (G_runS C Kc_X10_within KS_X10_112 (by omega) (c_X10_within 0 q 0 1 s) rfl rfl (Nat.le_of_ble_eq_true rfl) rfl dX10_where_3) rfl (fun x3 s3 h3 => ?_)
  obtain ⟨es3, h3⟩ := h3
  have es3 := es3.symm
  subst es3
  refine G_if_ne C 12 9 dX10_where_6 rfl rfl (fun c6 => ?_) (fun c6 => ?_)
  ·
    have k6 := g_neT h3 c6
    refine G_iconst (v := 0) C 13 dX10_where_12 rfl rfl ?_
    refine G_istore_n (i := 2) (L' := [some (.ref (e_ad E 0)), some (.int q), some (.int 0), none, none, none]) C 14 dX10_where_13 rfl rfl (Nat.le_of_ble_eq_true rfl) rfl rfl ?_
    refine G_iconst (v := (-1)) C 15 dX10_where_14 rfl rfl ?_
    refine G_istore_n (i := 3) (L' := [some (.ref (e_ad E 0)), some (.int q), some (.int 0), some (.int (-1)), none, none]) C 16 dX10_where_15 rfl rfl (Nat.le_of_ble_eq_true rfl) rfl rfl ?_
    refine G_iconst (v := 0) C 17 dX10_where_16 rfl rfl ?_
    refine G_istore (L' := [some (.ref (e_ad E 0)), some (.int q), some (.int 0), some (.int (-1)), some (.int 0), none]) C 19 dX10_where_17 rfl (Nat.le_of_ble_eq_true rfl) rfl rfl ?_
    have L19 : ∀ (f19 : Nat) (k : Nat) (be mo y : Int32) (sl19 : gS) (Ey : y = nI k) (hk : k ≤ 9) (hm : mo = b_m (fun c => x_cnt (x_mays TX P (nI c) (P 0 2))) (-1) k) (hb : (k = 0 ∧ be = 0) ∨ be = b_b (fun c => x_cnt (x_mays TX P (nI c) (P 0 2))) (-1) k) (fml19 : cI TX nT n l 45 P sl19) (fql19 : Fr mQ s sl19), 9 < k + f19 → GW SC E (gFin SC E (gQi SC (fun r s' => RC TX P B s' ∧ r = s_where TX P q))) 19 [some (.ref (e_ad E 0)), some (.int q), some (.int be), some (.int mo), some (.int y), none] [] sl19 := by
      intro f19
      induction f19 with
      | zero =>
        intro k be mo y sl19 Ey hk hm hb fml19 fql19 hf19
        exact absurd hf19 (by omega)
      | succ f19 ih19 =>
        intro k be mo y sl19 Ey hk hm hb fml19 fql19 hf19
        refine G_iload C 21 dX10_where_19 rfl rfl ?_
        refine G_bipush (v := 9) C 23 dX10_where_21 rfl rfl ?_
        refine G_icmp_ge C 65 26 dX10_where_23 rfl rfl (fun c23 => ?_) (fun c23 => ?_)
        ·
          have n23 : ¬ k < 9 := fun h => c23 ((g_ltN (a := k) (b := 9) (hx := Ey) (hy := rfl) (by omega) (by omega)).mpr h)
          refine G_iload_n (i := 1) C 66 dX10_where_65 rfl rfl rfl ?_
          refine G_if_ne C 73 69 dX10_where_66 rfl rfl (fun c66 => ?_) (fun c66 => ?_)
          ·
            refine G_iload_n (i := 3) C 74 dX10_where_73 rfl rfl rfl ?_
            exact G_iret C dX10_where_74 (⟨RC_q hR fql19, by
                have e : k = 9 := by omega
                subst e
                unfold s_where; rw [if_neg k6, if_neg c66]; exact hm⟩)
          ·
            refine G_iload_n (i := 2) C 70 dX10_where_69 rfl rfl rfl ?_
            refine G_goto C 74 dX10_where_70 rfl ?_
            exact G_iret C dX10_where_74 (⟨RC_q hR fql19, by
                have e : k = 9 := by omega
                subst e
                unfold s_where; rw [if_neg k6, if_pos c66]; exact hb.resolve_left (fun z => absurd z.1 (by decide))⟩)
        ·
          have n23 : k < 9 := (g_ltN (a := k) (b := 9) (hx := Ey) (hy := rfl) (by omega) (by omega)).mp c23
          refine G_aload_n (i := 0) C 27 dX10_where_26 rfl rfl rfl ?_
          refine X10_57g C 30 dX10_where_27 rfl ?_
          refine G_iload C 32 dX10_where_30 rfl rfl ?_
          refine G_aload_n (i := 0) C 33 dX10_where_32 rfl rfl rfl ?_
          refine X10_57g C 36 dX10_where_33 rfl ?_
          refine X10_100g C (Or.inl rfl) 39 dX10_where_36 rfl (fun x36 ex36 => ?_)
          have Sx36 : x36 = P 0 2 := ex36.trans (cI_v fml19 0 2)
          obtain ⟨mx36, hmx36, emx36⟩ := fml19.2.2.1.2.2.2.2.2.2.2.1
          refine G_calli 42 (G_runV C Kc_X9_mayAt KV_X10_128 (by omega) (lW0 (Or.inl rfl)) (eW _ _ _ (Or.inl rfl)) rfl (c_X9_mayAt 0 TX nT n l 45 P sl19 fml19 y x36 (⟨_, hmx36, Sx36.trans emx36⟩)) rfl rfl rfl (Nat.le_of_ble_eq_true rfl) rfl dX10_where_39) rfl (fun x39 s39 h39 => ?_)
          have fm_1 : cI TX nT n l 45 P s39 := cI_q fml19 (h39.1.SQ)
          have fq_1 : Fr mQ s s39 := Fr.tr fql19 (h39.1.SQ)
          obtain ⟨mx39, hmx39, emx39⟩ := x_mays1024 TX P y x36
          refine G_calli 45 (G_runS C Kc_J6_bitCount_0f7a4 KS_X10_103 (by omega) (c_J6_bitCount_0f7a4 0 mx39 (by omega) x39 (h39.2.trans emx39) s39) rfl rfl (Nat.le_of_ble_eq_true rfl) rfl dX10_where_42) rfl (fun x42 s42 h42 => ?_)
          obtain ⟨es42, h42⟩ := h42
          have es42 := es42.symm
          subst es42
          have hf : x42 = (fun c => x_cnt (x_mays TX P (nI c) (P 0 2))) k := by rw [h42, h39.2, Sx36, Ey]
          have hfr : ∃ j, j < 2147483648 ∧ x42 = nI j := by obtain ⟨j, hj, ej⟩ := x_cnt_r x39; exact ⟨j, by omega, h42.trans ej⟩
          refine G_istore (L' := [some (.ref (e_ad E 0)), some (.int q), some (.int be), some (.int mo), some (.int y), some (.int x42)]) C 47 dX10_where_45 rfl (Nat.le_of_ble_eq_true rfl) rfl rfl ?_
          refine G_iload C 49 dX10_where_47 rfl rfl ?_
          refine G_iload_n (i := 3) C 50 dX10_where_49 rfl rfl rfl ?_
          refine G_icmp_le C 59 53 dX10_where_50 rfl rfl (fun c50 => ?_) (fun c50 => ?_)
          ·
            refine G_iinc (w := 1) C 62 dX10_where_59 rfl rfl rfl rfl (fun x59 ex59 => ?_)
            have Nx59 : x59 = nI (k + 1) := g_addN ex59 Ey rfl
            show GW SC E _ 62 [some (.ref (e_ad E 0)), some (.int q), some (.int be), some (.int mo), some (.int x59), some (.int x42)] [] s39
            refine G_goto C 19 dX10_where_62 rfl ?_
            refine G_drop (L' := [some (.ref (e_ad E 0)), some (.int q), some (.int be), some (.int mo), some (.int x59), none]) ⟨rfl, rfl, rfl, rfl, rfl, trivial⟩ ?_
            exact ih19 (k + 1) be mo x59 s39 (g_cn (a := (k + 1)) Nx59 (by first | rfl | omega | (simp only [List.length_cons, List.length_drop]; done) | (simp only [List.length_cons, List.length_drop]; omega))) (by omega) (by rw [b_m, if_neg (by have z := c50; rw [hf, hm] at z; exact z)]; exact hm) (by
                  have z : ¬ b_m (fun c => x_cnt (x_mays TX P (nI c) (P 0 2))) (-1) k < (fun c => x_cnt (x_mays TX P (nI c) (P 0 2))) k := by have z := c50; rw [hf, hm] at z; exact z
                  rcases hb with ⟨h0, h1⟩ | h1
                  · exfalso
                    subst h0
                    obtain ⟨z1, z2, z3⟩ := hfr
                    refine z ?_
                    have z4 : (-1 : Int32) < x42 := by rw [z3]; exact nI_m1 (by omega)
                    rw [hf] at z4
                    exact z4
                  · exact Or.inr (by rw [b_b, if_neg z]; exact h1)) fm_1 fq_1 (by omega)
          ·
            refine G_iload C 55 dX10_where_53 rfl rfl ?_
            refine G_istore_n (i := 3) (L' := [some (.ref (e_ad E 0)), some (.int q), some (.int be), some (.int x42), some (.int y), some (.int x42)]) C 56 dX10_where_55 rfl rfl (Nat.le_of_ble_eq_true rfl) rfl rfl ?_
            refine G_iload C 58 dX10_where_56 rfl rfl ?_
            refine G_istore_n (i := 2) (L' := [some (.ref (e_ad E 0)), some (.int q), some (.int y), some (.int x42), some (.int y), some (.int x42)]) C 59 dX10_where_58 rfl rfl (Nat.le_of_ble_eq_true rfl) rfl rfl ?_
            refine G_iinc (w := 1) C 62 dX10_where_59 rfl rfl rfl rfl (fun x59 ex59 => ?_)
            have Nx59 : x59 = nI (k + 1) := g_addN ex59 Ey rfl
            show GW SC E _ 62 [some (.ref (e_ad E 0)), some (.int q), some (.int y), some (.int x42), some (.int x59), some (.int x42)] [] s39
            refine G_goto C 19 dX10_where_62 rfl ?_
            refine G_drop (L' := [some (.ref (e_ad E 0)), some (.int q), some (.int y), some (.int x42), some (.int x59), none]) ⟨rfl, rfl, rfl, rfl, rfl, trivial⟩ ?_
            exact ih19 (k + 1) y x42 x59 s39 (g_cn (a := (k + 1)) Nx59 (by first | rfl | omega | (simp only [List.length_cons, List.length_drop]; done) | (simp only [List.length_cons, List.length_drop]; omega))) (by omega) (by rw [b_m, if_pos (by have z := c50; rw [hf, hm] at z; exact z)]; exact hf) (Or.inr (by rw [b_b, if_pos (by have z := c50; rw [hf, hm] at z; exact z)]; exact Ey)) fm_1 fq_1 (by omega)
    exact L19 (9 + 1) 0 0 (-1) 0 s (g_cn (a := 0) rfl (by first | rfl | omega)) (by omega) (rfl) (Or.inl ⟨rfl, rfl⟩) fm fq (by omega)
  ·
    have k6 := h3.symm.trans c6
    refine G_bipush (v := (-2)) C 11 dX10_where_9 rfl rfl ?_
    exact G_iret C dX10_where_11 (⟨RC_q hR fq, by unfold s_where; rw [if_pos k6]⟩)
theorem dX10_begin_0 : decode cX10_begin 0 = .ok (.iload_n 1, 1) := by decide +kernel
theorem dX10_begin_1 : decode cX10_begin 1 = .ok (.iconst 0, 1) := by decide +kernel
theorem dX10_begin_2 : decode cX10_begin 2 = .ok (.bipush 40, 2) := by decide +kernel
theorem dX10_begin_4 : decode cX10_begin 4 = .ok (.invokestatic 112, 3) := by decide +kernel
theorem dX10_begin_7 : decode cX10_begin 7 = .ok (.ifCond .eq 12, 3) := by decide +kernel
theorem dX10_begin_10 : decode cX10_begin 10 = .ok (.iload_n 2, 1) := by decide +kernel
theorem dX10_begin_11 : decode cX10_begin 11 = .ok (.iconst 0, 1) := by decide +kernel
theorem dX10_begin_12 : decode cX10_begin 12 = .ok (.iconst 1, 1) := by decide +kernel
theorem dX10_begin_13 : decode cX10_begin 13 = .ok (.invokestatic 112, 3) := by decide +kernel
theorem dX10_begin_16 : decode cX10_begin 16 = .ok (.ifCond .ne 6, 3) := by decide +kernel
theorem dX10_begin_19 : decode cX10_begin 19 = .ok (.bipush (-7), 2) := by decide +kernel
theorem dX10_begin_21 : decode cX10_begin 21 = .ok (.ireturn, 1) := by decide +kernel
theorem dX10_begin_22 : decode cX10_begin 22 = .ok (.iconst 0, 1) := by decide +kernel
theorem dX10_begin_23 : decode cX10_begin 23 = .ok (.istore_n 3, 1) := by decide +kernel
theorem dX10_begin_24 : decode cX10_begin 24 = .ok (.iconst (-1), 1) := by decide +kernel
theorem dX10_begin_25 : decode cX10_begin 25 = .ok (.istore 4, 2) := by decide +kernel
theorem dX10_begin_27 : decode cX10_begin 27 = .ok (.iconst 0, 1) := by decide +kernel
theorem dX10_begin_28 : decode cX10_begin 28 = .ok (.istore 5, 2) := by decide +kernel
theorem dX10_begin_30 : decode cX10_begin 30 = .ok (.iload 5, 2) := by decide +kernel
theorem dX10_begin_32 : decode cX10_begin 32 = .ok (.bipush 9, 2) := by decide +kernel
theorem dX10_begin_34 : decode cX10_begin 34 = .ok (.if_icmp .ge 53, 3) := by decide +kernel
theorem dX10_begin_37 : decode cX10_begin 37 = .ok (.aload_n 0, 1) := by decide +kernel
theorem dX10_begin_38 : decode cX10_begin 38 = .ok (.getfield 61, 3) := by decide +kernel
theorem dX10_begin_41 : decode cX10_begin 41 = .ok (.aload_n 0, 1) := by decide +kernel
theorem dX10_begin_42 : decode cX10_begin 42 = .ok (.getfield 57, 3) := by decide +kernel
theorem dX10_begin_45 : decode cX10_begin 45 = .ok (.invokevirtual 174, 3) := by decide +kernel
theorem dX10_begin_48 : decode cX10_begin 48 = .ok (.aload_n 0, 1) := by decide +kernel
theorem dX10_begin_49 : decode cX10_begin 49 = .ok (.getfield 61, 3) := by decide +kernel
theorem dX10_begin_52 : decode cX10_begin 52 = .ok (.iload 5, 2) := by decide +kernel
theorem dX10_begin_54 : decode cX10_begin 54 = .ok (.putfield 122, 3) := by decide +kernel
theorem dX10_begin_57 : decode cX10_begin 57 = .ok (.aload_n 0, 1) := by decide +kernel
theorem dX10_begin_58 : decode cX10_begin 58 = .ok (.getfield 61, 3) := by decide +kernel
theorem dX10_begin_61 : decode cX10_begin 61 = .ok (.iload_n 1, 1) := by decide +kernel
theorem dX10_begin_62 : decode cX10_begin 62 = .ok (.invokevirtual 178, 3) := by decide +kernel
theorem dX10_begin_65 : decode cX10_begin 65 = .ok (.istore 6, 2) := by decide +kernel
theorem dX10_begin_67 : decode cX10_begin 67 = .ok (.iload 6, 2) := by decide +kernel
theorem dX10_begin_69 : decode cX10_begin 69 = .ok (.iload 4, 2) := by decide +kernel
theorem dX10_begin_71 : decode cX10_begin 71 = .ok (.if_icmp .le 10, 3) := by decide +kernel
theorem dX10_begin_74 : decode cX10_begin 74 = .ok (.iload 6, 2) := by decide +kernel
theorem dX10_begin_76 : decode cX10_begin 76 = .ok (.istore 4, 2) := by decide +kernel
theorem dX10_begin_78 : decode cX10_begin 78 = .ok (.iload 5, 2) := by decide +kernel
theorem dX10_begin_80 : decode cX10_begin 80 = .ok (.istore_n 3, 1) := by decide +kernel
theorem dX10_begin_81 : decode cX10_begin 81 = .ok (.iinc 5 1, 3) := by decide +kernel
theorem dX10_begin_84 : decode cX10_begin 84 = .ok (.goto (-54), 3) := by decide +kernel
theorem dX10_begin_87 : decode cX10_begin 87 = .ok (.iload_n 2, 1) := by decide +kernel
theorem dX10_begin_88 : decode cX10_begin 88 = .ok (.ifCond .ne 7, 3) := by decide +kernel
theorem dX10_begin_91 : decode cX10_begin 91 = .ok (.iload_n 3, 1) := by decide +kernel
theorem dX10_begin_92 : decode cX10_begin 92 = .ok (.goto 5, 3) := by decide +kernel
theorem dX10_begin_95 : decode cX10_begin 95 = .ok (.iload 4, 2) := by decide +kernel
theorem dX10_begin_97 : decode cX10_begin 97 = .ok (.ireturn, 1) := by decide +kernel
set_option maxHeartbeats 4000000 in
set_option maxRecDepth 100000 in
theorem c_X10_begin (d : Nat) (TX : gTX) (P B s : gS) (hR0 : RC TX P B s) (m q : Int32) : gMt SC yX10_begin cX10_begin 7 (some .int) (d + 10) (fun ad => [.ref (ad 0), .int m, .int q]) s (gQi SC (fun r s' => RC TX P B s' ∧ r = s_begin TX P m q)) := by
  obtain ⟨nT, n, l, hR⟩ := hR0
  have hI := hR.1
  have hn6 : n ≤ 6 := hI.2.2.1.2.1
  have hl6 : l < 6 := cI_l6 hI
  have hxn : x_n P = n := x_nOf hI.2.2.1.1 hn6
  have hbI := hR.2.2
  refine gMt_of SC_ok (by decide +kernel) (fun ad => [some (.ref (ad 0)), some (.int m), some (.int q), none, none, none, none]) (fun _ => rfl) (fun _ => rfl) (fun _ => Nat.le_of_ble_eq_true rfl) (fun E C0 => ?_)
  have C : gCx SC E RX10 cX10_begin 7 (some .int) (d + 10) := C0
  have fm : cI TX nT n l 45 P s := hI
  have fq : Fr mQ s s := Fr.rf
  refine G_iload_n (i := 1) C 1 dX10_begin_0 rfl rfl rfl ?_
  refine G_iconst (v := 0) C 2 dX10_begin_1 rfl rfl ?_
  refine G_bipush (v := 40) C 4 dX10_begin_2 rfl rfl ?_
  refine G_calli 7 (G_runS C Kc_X10_within KS_X10_112 (by omega) (c_X10_within 0 m 0 40 s) rfl rfl (Nat.le_of_ble_eq_true rfl) rfl dX10_begin_4) rfl (fun x4 s4 h4 => ?_)
  obtain ⟨es4, h4⟩ := h4
  have es4 := es4.symm
  subst es4
  refine G_if_eq C 19 10 dX10_begin_7 rfl rfl (fun c7 => ?_) (fun c7 => ?_)
  ·
    have k7 := h4.symm.trans c7
    refine G_bipush (v := (-7)) C 21 dX10_begin_19 rfl rfl ?_
    exact G_iret C dX10_begin_21 (⟨RC_q hR fq, by unfold s_begin; rw [if_pos k7]⟩)
  ·
    have k7 := g_neT h4 c7
    obtain ⟨um, hum, eum⟩ := x_inR (b := 40) k7 rfl (by decide)
    have cum : m.toNatClampNeg = um := by rw [eum, nI_clamp (by omega)]
    refine G_iload_n (i := 2) C 11 dX10_begin_10 rfl rfl rfl ?_
    refine G_iconst (v := 0) C 12 dX10_begin_11 rfl rfl ?_
    refine G_iconst (v := 1) C 13 dX10_begin_12 rfl rfl ?_
    refine G_calli 16 (G_runS C Kc_X10_within KS_X10_112 (by omega) (c_X10_within 0 q 0 1 s) rfl rfl (Nat.le_of_ble_eq_true rfl) rfl dX10_begin_13) rfl (fun x13 s13 h13 => ?_)
    obtain ⟨es13, h13⟩ := h13
    have es13 := es13.symm
    subst es13
    refine G_if_ne C 22 19 dX10_begin_16 rfl rfl (fun c16 => ?_) (fun c16 => ?_)
    ·
      have k16 := g_neT h13 c16
      refine G_iconst (v := 0) C 23 dX10_begin_22 rfl rfl ?_
      refine G_istore_n (i := 3) (L' := [some (.ref (e_ad E 0)), some (.int m), some (.int q), some (.int 0), none, none, none]) C 24 dX10_begin_23 rfl rfl (Nat.le_of_ble_eq_true rfl) rfl rfl ?_
      refine G_iconst (v := (-1)) C 25 dX10_begin_24 rfl rfl ?_
      refine G_istore (L' := [some (.ref (e_ad E 0)), some (.int m), some (.int q), some (.int 0), some (.int (-1)), none, none]) C 27 dX10_begin_25 rfl (Nat.le_of_ble_eq_true rfl) rfl rfl ?_
      refine G_iconst (v := 0) C 28 dX10_begin_27 rfl rfl ?_
      refine G_istore (L' := [some (.ref (e_ad E 0)), some (.int m), some (.int q), some (.int 0), some (.int (-1)), some (.int 0), none]) C 30 dX10_begin_28 rfl (Nat.le_of_ble_eq_true rfl) rfl rfl ?_
      have L30 : ∀ (f30 : Nat) (k : Nat) (be mo y : Int32) (sl30 : gS) (Ey : y = nI k) (hk : k ≤ 9) (hm : mo = b_m (fun c => x_cr TX um (g_up P 0 1 (nI c))) (-1) k) (hb : (k = 0 ∧ be = 0) ∨ be = b_b (fun c => x_cr TX um (g_up P 0 1 (nI c))) (-1) k) (fml30 : cI TX nT n l 45 P sl30) (fql30 : Fr mQ s sl30), 9 < k + f30 → GW SC E (gFin SC E (gQi SC (fun r s' => RC TX P B s' ∧ r = s_begin TX P m q))) 30 [some (.ref (e_ad E 0)), some (.int m), some (.int q), some (.int be), some (.int mo), some (.int y), none] [] sl30 := by
        intro f30
        induction f30 with
        | zero =>
          intro k be mo y sl30 Ey hk hm hb fml30 fql30 hf30
          exact absurd hf30 (by omega)
        | succ f30 ih30 =>
          intro k be mo y sl30 Ey hk hm hb fml30 fql30 hf30
          refine G_iload C 32 dX10_begin_30 rfl rfl ?_
          refine G_bipush (v := 9) C 34 dX10_begin_32 rfl rfl ?_
          refine G_icmp_ge C 87 37 dX10_begin_34 rfl rfl (fun c34 => ?_) (fun c34 => ?_)
          ·
            have n34 : ¬ k < 9 := fun h => c34 ((g_ltN (a := k) (b := 9) (hx := Ey) (hy := rfl) (by omega) (by omega)).mpr h)
            refine G_iload_n (i := 2) C 88 dX10_begin_87 rfl rfl rfl ?_
            refine G_if_ne C 95 91 dX10_begin_88 rfl rfl (fun c88 => ?_) (fun c88 => ?_)
            ·
              refine G_iload C 97 dX10_begin_95 rfl rfl ?_
              exact G_iret C dX10_begin_97 (⟨RC_q hR fql30, by
                  have e : k = 9 := by omega
                  subst e
                  unfold s_begin; rw [if_neg k7, if_neg k16, cum, if_neg c88]; exact hm⟩)
            ·
              refine G_iload_n (i := 3) C 92 dX10_begin_91 rfl rfl rfl ?_
              refine G_goto C 97 dX10_begin_92 rfl ?_
              exact G_iret C dX10_begin_97 (⟨RC_q hR fql30, by
                  have e : k = 9 := by omega
                  subst e
                  unfold s_begin; rw [if_neg k7, if_neg k16, cum, if_pos c88]; exact hb.resolve_left (fun z => absurd z.1 (by decide))⟩)
          ·
            have n34 : k < 9 := (g_ltN (a := k) (b := 9) (hx := Ey) (hy := rfl) (by omega) (by omega)).mp c34
            refine G_aload_n (i := 0) C 38 dX10_begin_37 rfl rfl rfl ?_
            refine X10_61g C 41 dX10_begin_38 rfl ?_
            refine G_aload_n (i := 0) C 42 dX10_begin_41 rfl rfl rfl ?_
            refine X10_57g C 45 dX10_begin_42 rfl ?_
            refine G_callv 48 (G_runV C Kc_X9_become KV_X10_174 (by omega) (lW0 (Or.inr (Or.inl rfl))) (eW _ _ _ (Or.inr (Or.inl rfl))) rfl (c_X9_become 0 54 45 (Or.inr (Or.inl rfl)) (Or.inl rfl) (by decide) sl30) rfl rfl rfl (Nat.le_of_ble_eq_true rfl) rfl dX10_begin_45) rfl (fun s45 h45 => ?_)
            have fm_1 : cI TX nT n l 45 P s45 := cI_q fml30 (h45.1.UQ)
            have fq_1 : Fr mQ s s45 := Fr.tr fql30 (h45.1.UQ)
            have i_1 : cI TX nT n l 54 P s45 := cI_bec fm_1 h45.1 h45.2
            refine G_aload_n (i := 0) C 49 dX10_begin_48 rfl rfl rfl ?_
            refine X10_61g C 52 dX10_begin_49 rfl ?_
            refine G_iload C 54 dX10_begin_52 rfl rfl ?_
            refine X10_122p C (Or.inr (Or.inl rfl)) 57 dX10_begin_54 rfl (fun s54 es54 => ?_)
            have fm_2 : cI TX nT n l 45 P s54 := cI_q fm_1 (Fr.up es54 (mQ_w (i := 0) (by decide)))
            have fq_2 : Fr mQ s s54 := Fr.tr fq_1 (Fr.up es54 (mQ_w (i := 0) (by decide)))
            have i_2 : cI TX nT n l 54 (g_up P 0 1 (nI k)) s54 := by have z := cI_corner i_1 es54 ⟨k, by omega, Ey⟩; rw [Ey] at z; exact z
            refine G_aload_n (i := 0) C 58 dX10_begin_57 rfl rfl rfl ?_
            refine X10_61g C 61 dX10_begin_58 rfl ?_
            refine G_iload_n (i := 1) C 62 dX10_begin_61 rfl rfl rfl ?_
            refine G_calli 65 (G_runV C Kc_X9_passMany KV_X10_178 (by omega) (lW0 (Or.inr (Or.inl rfl))) (eW _ _ _ (Or.inr (Or.inl rfl))) rfl (c_X9_passMany 0 TX nT n l 54 (g_up P 0 1 (nI k)) s54 i_2 m um eum (by omega)) rfl rfl rfl (Nat.le_of_ble_eq_true rfl) rfl dX10_begin_62) rfl (fun x62 s62 h62 => ?_)
            have fm_3 : cI TX nT n l 45 P s62 := cI_q fm_2 (h62.1.Q)
            have fq_3 : Fr mQ s s62 := Fr.tr fq_2 (h62.1.Q)
            have i_3 : cI TX nT n l 54 (x_run TX um (g_up P 0 1 (nI k))) s62 := h62.2.1
            have hf : x62 = (fun c => x_cr TX um (g_up P 0 1 (nI c))) k := h62.2.2
            have hfr : ∃ j, j < 2147483648 ∧ x62 = nI j := by obtain ⟨j, hj, ej⟩ := x_cr_r TX (g_up P 0 1 (nI k)) um; exact ⟨j, by omega, h62.2.2.trans ej⟩
            refine G_istore (L' := [some (.ref (e_ad E 0)), some (.int m), some (.int q), some (.int be), some (.int mo), some (.int y), some (.int x62)]) C 67 dX10_begin_65 rfl (Nat.le_of_ble_eq_true rfl) rfl rfl ?_
            refine G_iload C 69 dX10_begin_67 rfl rfl ?_
            refine G_iload C 71 dX10_begin_69 rfl rfl ?_
            refine G_icmp_le C 81 74 dX10_begin_71 rfl rfl (fun c71 => ?_) (fun c71 => ?_)
            ·
              refine G_iinc (w := 1) C 84 dX10_begin_81 rfl rfl rfl rfl (fun x81 ex81 => ?_)
              have Nx81 : x81 = nI (k + 1) := g_addN ex81 Ey rfl
              show GW SC E _ 84 [some (.ref (e_ad E 0)), some (.int m), some (.int q), some (.int be), some (.int mo), some (.int x81), some (.int x62)] [] s62
              refine G_goto C 30 dX10_begin_84 rfl ?_
              refine G_drop (L' := [some (.ref (e_ad E 0)), some (.int m), some (.int q), some (.int be), some (.int mo), some (.int x81), none]) ⟨rfl, rfl, rfl, rfl, rfl, rfl, trivial⟩ ?_
              exact ih30 (k + 1) be mo x81 s62 (g_cn (a := (k + 1)) Nx81 (by first | rfl | omega | (simp only [List.length_cons, List.length_drop]; done) | (simp only [List.length_cons, List.length_drop]; omega))) (by omega) (by rw [b_m, if_neg (by have z := c71; rw [hf, hm] at z; exact z)]; exact hm) (by
                    have z : ¬ b_m (fun c => x_cr TX um (g_up P 0 1 (nI c))) (-1) k < (fun c => x_cr TX um (g_up P 0 1 (nI c))) k := by have z := c71; rw [hf, hm] at z; exact z
                    rcases hb with ⟨h0, h1⟩ | h1
                    · exfalso
                      subst h0
                      obtain ⟨z1, z2, z3⟩ := hfr
                      refine z ?_
                      have z4 : (-1 : Int32) < x62 := by rw [z3]; exact nI_m1 (by omega)
                      rw [hf] at z4
                      exact z4
                    · exact Or.inr (by rw [b_b, if_neg z]; exact h1)) fm_3 fq_3 (by omega)
            ·
              refine G_iload C 76 dX10_begin_74 rfl rfl ?_
              refine G_istore (L' := [some (.ref (e_ad E 0)), some (.int m), some (.int q), some (.int be), some (.int x62), some (.int y), some (.int x62)]) C 78 dX10_begin_76 rfl (Nat.le_of_ble_eq_true rfl) rfl rfl ?_
              refine G_iload C 80 dX10_begin_78 rfl rfl ?_
              refine G_istore_n (i := 3) (L' := [some (.ref (e_ad E 0)), some (.int m), some (.int q), some (.int y), some (.int x62), some (.int y), some (.int x62)]) C 81 dX10_begin_80 rfl rfl (Nat.le_of_ble_eq_true rfl) rfl rfl ?_
              refine G_iinc (w := 1) C 84 dX10_begin_81 rfl rfl rfl rfl (fun x81 ex81 => ?_)
              have Nx81 : x81 = nI (k + 1) := g_addN ex81 Ey rfl
              show GW SC E _ 84 [some (.ref (e_ad E 0)), some (.int m), some (.int q), some (.int y), some (.int x62), some (.int x81), some (.int x62)] [] s62
              refine G_goto C 30 dX10_begin_84 rfl ?_
              refine G_drop (L' := [some (.ref (e_ad E 0)), some (.int m), some (.int q), some (.int y), some (.int x62), some (.int x81), none]) ⟨rfl, rfl, rfl, rfl, rfl, rfl, trivial⟩ ?_
              exact ih30 (k + 1) y x62 x81 s62 (g_cn (a := (k + 1)) Nx81 (by first | rfl | omega | (simp only [List.length_cons, List.length_drop]; done) | (simp only [List.length_cons, List.length_drop]; omega))) (by omega) (by rw [b_m, if_pos (by have z := c71; rw [hf, hm] at z; exact z)]; exact hf) (Or.inr (by rw [b_b, if_pos (by have z := c71; rw [hf, hm] at z; exact z)]; exact Ey)) fm_3 fq_3 (by omega)
      exact L30 (9 + 1) 0 0 (-1) 0 s (g_cn (a := 0) rfl (by first | rfl | omega)) (by omega) (rfl) (Or.inl ⟨rfl, rfl⟩) fm fq (by omega)
    ·
      have k16 := h13.symm.trans c16
      refine G_bipush (v := (-7)) C 21 dX10_begin_19 rfl rfl ?_
      exact G_iret C dX10_begin_21 (⟨RC_q hR fq, by unfold s_begin; rw [if_neg k7, if_pos k16]⟩)
theorem dX10_windows_0 : decode cX10_windows 0 = .ok (.iload_n 1, 1) := by decide +kernel
theorem dX10_windows_1 : decode cX10_windows 1 = .ok (.iconst 0, 1) := by decide +kernel
theorem dX10_windows_2 : decode cX10_windows 2 = .ok (.bipush 40, 2) := by decide +kernel
theorem dX10_windows_4 : decode cX10_windows 4 = .ok (.invokestatic 112, 3) := by decide +kernel
theorem dX10_windows_7 : decode cX10_windows 7 = .ok (.ifCond .eq 12, 3) := by decide +kernel
theorem dX10_windows_10 : decode cX10_windows 10 = .ok (.iload_n 2, 1) := by decide +kernel
theorem dX10_windows_11 : decode cX10_windows 11 = .ok (.iconst 0, 1) := by decide +kernel
theorem dX10_windows_12 : decode cX10_windows 12 = .ok (.iconst 1, 1) := by decide +kernel
theorem dX10_windows_13 : decode cX10_windows 13 = .ok (.invokestatic 112, 3) := by decide +kernel
theorem dX10_windows_16 : decode cX10_windows 16 = .ok (.ifCond .ne 6, 3) := by decide +kernel
theorem dX10_windows_19 : decode cX10_windows 19 = .ok (.bipush (-7), 2) := by decide +kernel
theorem dX10_windows_21 : decode cX10_windows 21 = .ok (.ireturn, 1) := by decide +kernel
theorem dX10_windows_22 : decode cX10_windows 22 = .ok (.aload_n 0, 1) := by decide +kernel
theorem dX10_windows_23 : decode cX10_windows 23 = .ok (.getfield 61, 3) := by decide +kernel
theorem dX10_windows_26 : decode cX10_windows 26 = .ok (.aload_n 0, 1) := by decide +kernel
theorem dX10_windows_27 : decode cX10_windows 27 = .ok (.getfield 57, 3) := by decide +kernel
theorem dX10_windows_30 : decode cX10_windows 30 = .ok (.invokevirtual 174, 3) := by decide +kernel
theorem dX10_windows_33 : decode cX10_windows 33 = .ok (.iconst (-1), 1) := by decide +kernel
theorem dX10_windows_34 : decode cX10_windows 34 = .ok (.istore_n 3, 1) := by decide +kernel
theorem dX10_windows_35 : decode cX10_windows 35 = .ok (.aload_n 0, 1) := by decide +kernel
theorem dX10_windows_36 : decode cX10_windows 36 = .ok (.getfield 61, 3) := by decide +kernel
theorem dX10_windows_39 : decode cX10_windows 39 = .ok (.iload_n 1, 1) := by decide +kernel
theorem dX10_windows_40 : decode cX10_windows 40 = .ok (.invokevirtual 178, 3) := by decide +kernel
theorem dX10_windows_43 : decode cX10_windows 43 = .ok (.istore 4, 2) := by decide +kernel
theorem dX10_windows_45 : decode cX10_windows 45 = .ok (.iconst 0, 1) := by decide +kernel
theorem dX10_windows_46 : decode cX10_windows 46 = .ok (.istore 5, 2) := by decide +kernel
theorem dX10_windows_48 : decode cX10_windows 48 = .ok (.iload 5, 2) := by decide +kernel
theorem dX10_windows_50 : decode cX10_windows 50 = .ok (.aload_n 0, 1) := by decide +kernel
theorem dX10_windows_51 : decode cX10_windows 51 = .ok (.getfield 57, 3) := by decide +kernel
theorem dX10_windows_54 : decode cX10_windows 54 = .ok (.getfield 94, 3) := by decide +kernel
theorem dX10_windows_57 : decode cX10_windows 57 = .ok (.if_icmp .ge 66, 3) := by decide +kernel
theorem dX10_windows_60 : decode cX10_windows 60 = .ok (.aload_n 0, 1) := by decide +kernel
theorem dX10_windows_61 : decode cX10_windows 61 = .ok (.getfield 61, 3) := by decide +kernel
theorem dX10_windows_64 : decode cX10_windows 64 = .ok (.aload_n 0, 1) := by decide +kernel
theorem dX10_windows_65 : decode cX10_windows 65 = .ok (.getfield 57, 3) := by decide +kernel
theorem dX10_windows_68 : decode cX10_windows 68 = .ok (.invokevirtual 174, 3) := by decide +kernel
theorem dX10_windows_71 : decode cX10_windows 71 = .ok (.aload_n 0, 1) := by decide +kernel
theorem dX10_windows_72 : decode cX10_windows 72 = .ok (.getfield 61, 3) := by decide +kernel
theorem dX10_windows_75 : decode cX10_windows 75 = .ok (.getfield 193, 3) := by decide +kernel
theorem dX10_windows_78 : decode cX10_windows 78 = .ok (.iload 5, 2) := by decide +kernel
theorem dX10_windows_80 : decode cX10_windows 80 = .ok (.iconst 1, 1) := by decide +kernel
theorem dX10_windows_81 : decode cX10_windows 81 = .ok (.aload_n 0, 1) := by decide +kernel
theorem dX10_windows_82 : decode cX10_windows 82 = .ok (.getfield 61, 3) := by decide +kernel
theorem dX10_windows_85 : decode cX10_windows 85 = .ok (.getfield 193, 3) := by decide +kernel
theorem dX10_windows_88 : decode cX10_windows 88 = .ok (.iload 5, 2) := by decide +kernel
theorem dX10_windows_90 : decode cX10_windows 90 = .ok (.iaload, 1) := by decide +kernel
theorem dX10_windows_91 : decode cX10_windows 91 = .ok (.isub, 1) := by decide +kernel
theorem dX10_windows_92 : decode cX10_windows 92 = .ok (.iastore, 1) := by decide +kernel
theorem dX10_windows_93 : decode cX10_windows 93 = .ok (.aload_n 0, 1) := by decide +kernel
theorem dX10_windows_94 : decode cX10_windows 94 = .ok (.getfield 61, 3) := by decide +kernel
theorem dX10_windows_97 : decode cX10_windows 97 = .ok (.iload_n 1, 1) := by decide +kernel
theorem dX10_windows_98 : decode cX10_windows 98 = .ok (.invokevirtual 178, 3) := by decide +kernel
theorem dX10_windows_101 : decode cX10_windows 101 = .ok (.istore 6, 2) := by decide +kernel
theorem dX10_windows_103 : decode cX10_windows 103 = .ok (.iload 6, 2) := by decide +kernel
theorem dX10_windows_105 : decode cX10_windows 105 = .ok (.iload 4, 2) := by decide +kernel
theorem dX10_windows_107 : decode cX10_windows 107 = .ok (.if_icmp .le 10, 3) := by decide +kernel
theorem dX10_windows_110 : decode cX10_windows 110 = .ok (.iload 6, 2) := by decide +kernel
theorem dX10_windows_112 : decode cX10_windows 112 = .ok (.istore 4, 2) := by decide +kernel
theorem dX10_windows_114 : decode cX10_windows 114 = .ok (.iload 5, 2) := by decide +kernel
theorem dX10_windows_116 : decode cX10_windows 116 = .ok (.istore_n 3, 1) := by decide +kernel
theorem dX10_windows_117 : decode cX10_windows 117 = .ok (.iinc 5 1, 3) := by decide +kernel
theorem dX10_windows_120 : decode cX10_windows 120 = .ok (.goto (-72), 3) := by decide +kernel
theorem dX10_windows_123 : decode cX10_windows 123 = .ok (.iload_n 2, 1) := by decide +kernel
theorem dX10_windows_124 : decode cX10_windows 124 = .ok (.ifCond .ne 7, 3) := by decide +kernel
theorem dX10_windows_127 : decode cX10_windows 127 = .ok (.iload_n 3, 1) := by decide +kernel
theorem dX10_windows_128 : decode cX10_windows 128 = .ok (.goto 5, 3) := by decide +kernel
theorem dX10_windows_131 : decode cX10_windows 131 = .ok (.iload 4, 2) := by decide +kernel
theorem dX10_windows_133 : decode cX10_windows 133 = .ok (.ireturn, 1) := by decide +kernel
set_option maxHeartbeats 4000000 in
set_option maxRecDepth 100000 in
theorem c_X10_windows (d : Nat) (TX : gTX) (P B s : gS) (hR0 : RC TX P B s) (m q : Int32) : gMt SC yX10_windows cX10_windows 7 (some .int) (d + 10) (fun ad => [.ref (ad 0), .int m, .int q]) s (gQi SC (fun r s' => RC TX P B s' ∧ r = s_wind TX P m q)) := by
  obtain ⟨nT, n, l, hR⟩ := hR0
  have hI := hR.1
  have hn6 : n ≤ 6 := hI.2.2.1.2.1
  have hl6 : l < 6 := cI_l6 hI
  have hxn : x_n P = n := x_nOf hI.2.2.1.1 hn6
  have hbI := hR.2.2
  refine gMt_of SC_ok (by decide +kernel) (fun ad => [some (.ref (ad 0)), some (.int m), some (.int q), none, none, none, none]) (fun _ => rfl) (fun _ => rfl) (fun _ => Nat.le_of_ble_eq_true rfl) (fun E C0 => ?_)
  have C : gCx SC E RX10 cX10_windows 7 (some .int) (d + 10) := C0
  have fm : cI TX nT n l 45 P s := hI
  have fq : Fr mQ s s := Fr.rf
  refine G_iload_n (i := 1) C 1 dX10_windows_0 rfl rfl rfl ?_
  refine G_iconst (v := 0) C 2 dX10_windows_1 rfl rfl ?_
  refine G_bipush (v := 40) C 4 dX10_windows_2 rfl rfl ?_
  refine G_calli 7 (G_runS C Kc_X10_within KS_X10_112 (by omega) (c_X10_within 0 m 0 40 s) rfl rfl (Nat.le_of_ble_eq_true rfl) rfl dX10_windows_4) rfl (fun x4 s4 h4 => ?_)
  obtain ⟨es4, h4⟩ := h4
  have es4 := es4.symm
  subst es4
  refine G_if_eq C 19 10 dX10_windows_7 rfl rfl (fun c7 => ?_) (fun c7 => ?_)
  ·
    have k7 := h4.symm.trans c7
    refine G_bipush (v := (-7)) C 21 dX10_windows_19 rfl rfl ?_
    exact G_iret C dX10_windows_21 (⟨RC_q hR fq, by unfold s_wind; rw [if_pos k7]⟩)
  ·
    have k7 := g_neT h4 c7
    obtain ⟨um, hum, eum⟩ := x_inR (b := 40) k7 rfl (by decide)
    have cum : m.toNatClampNeg = um := by rw [eum, nI_clamp (by omega)]
    refine G_iload_n (i := 2) C 11 dX10_windows_10 rfl rfl rfl ?_
    refine G_iconst (v := 0) C 12 dX10_windows_11 rfl rfl ?_
    refine G_iconst (v := 1) C 13 dX10_windows_12 rfl rfl ?_
    refine G_calli 16 (G_runS C Kc_X10_within KS_X10_112 (by omega) (c_X10_within 0 q 0 1 s) rfl rfl (Nat.le_of_ble_eq_true rfl) rfl dX10_windows_13) rfl (fun x13 s13 h13 => ?_)
    obtain ⟨es13, h13⟩ := h13
    have es13 := es13.symm
    subst es13
    refine G_if_ne C 22 19 dX10_windows_16 rfl rfl (fun c16 => ?_) (fun c16 => ?_)
    ·
      have k16 := g_neT h13 c16
      refine G_aload_n (i := 0) C 23 dX10_windows_22 rfl rfl rfl ?_
      refine X10_61g C 26 dX10_windows_23 rfl ?_
      refine G_aload_n (i := 0) C 27 dX10_windows_26 rfl rfl rfl ?_
      refine X10_57g C 30 dX10_windows_27 rfl ?_
      refine G_callv 33 (G_runV C Kc_X9_become KV_X10_174 (by omega) (lW0 (Or.inr (Or.inl rfl))) (eW _ _ _ (Or.inr (Or.inl rfl))) rfl (c_X9_become 0 54 45 (Or.inr (Or.inl rfl)) (Or.inl rfl) (by decide) s) rfl rfl rfl (Nat.le_of_ble_eq_true rfl) rfl dX10_windows_30) rfl (fun s30 h30 => ?_)
      have fm_1 : cI TX nT n l 45 P s30 := cI_q fm (h30.1.UQ)
      have fq_1 : Fr mQ s s30 := Fr.tr fq (h30.1.UQ)
      have i_1 : cI TX nT n l 54 P s30 := cI_bec fm_1 h30.1 h30.2
      refine G_iconst (v := (-1)) C 34 dX10_windows_33 rfl rfl ?_
      refine G_istore_n (i := 3) (L' := [some (.ref (e_ad E 0)), some (.int m), some (.int q), some (.int (-1)), none, none, none]) C 35 dX10_windows_34 rfl rfl (Nat.le_of_ble_eq_true rfl) rfl rfl ?_
      refine G_aload_n (i := 0) C 36 dX10_windows_35 rfl rfl rfl ?_
      refine X10_61g C 39 dX10_windows_36 rfl ?_
      refine G_iload_n (i := 1) C 40 dX10_windows_39 rfl rfl rfl ?_
      refine G_calli 43 (G_runV C Kc_X9_passMany KV_X10_178 (by omega) (lW0 (Or.inr (Or.inl rfl))) (eW _ _ _ (Or.inr (Or.inl rfl))) rfl (c_X9_passMany 0 TX nT n l 54 P s30 i_1 m um eum (by omega)) rfl rfl rfl (Nat.le_of_ble_eq_true rfl) rfl dX10_windows_40) rfl (fun x40 s40 h40 => ?_)
      have fm_2 : cI TX nT n l 45 P s40 := cI_q fm_1 (h40.1.Q)
      have fq_2 : Fr mQ s s40 := Fr.tr fq_1 (h40.1.Q)
      have i_2 : cI TX nT n l 54 (x_run TX um P) s40 := h40.2.1
      refine G_istore (L' := [some (.ref (e_ad E 0)), some (.int m), some (.int q), some (.int (-1)), some (.int x40), none, none]) C 45 dX10_windows_43 rfl (Nat.le_of_ble_eq_true rfl) rfl rfl ?_
      refine G_iconst (v := 0) C 46 dX10_windows_45 rfl rfl ?_
      refine G_istore (L' := [some (.ref (e_ad E 0)), some (.int m), some (.int q), some (.int (-1)), some (.int x40), some (.int 0), none]) C 48 dX10_windows_46 rfl (Nat.le_of_ble_eq_true rfl) rfl rfl ?_
      have L48 : ∀ (f48 : Nat) (k : Nat) (be mo y : Int32) (sl48 : gS) (Ey : y = nI k) (hk : k ≤ n) (hm : mo = b_m (fun p => x_cr TX um (g_up P 5 p (1 - P 5 p))) (x_cr TX um P) k) (hb : be = b_b (fun p => x_cr TX um (g_up P 5 p (1 - P 5 p))) (x_cr TX um P) k) (fml48 : cI TX nT n l 45 P sl48) (fql48 : Fr mQ s sl48), n < k + f48 → GW SC E (gFin SC E (gQi SC (fun r s' => RC TX P B s' ∧ r = s_wind TX P m q))) 48 [some (.ref (e_ad E 0)), some (.int m), some (.int q), some (.int be), some (.int mo), some (.int y), none] [] sl48 := by
        intro f48
        induction f48 with
        | zero =>
          intro k be mo y sl48 Ey hk hm hb fml48 fql48 hf48
          exact absurd hf48 (by omega)
        | succ f48 ih48 =>
          intro k be mo y sl48 Ey hk hm hb fml48 fql48 hf48
          refine G_iload C 50 dX10_windows_48 rfl rfl ?_
          refine G_aload_n (i := 0) C 51 dX10_windows_50 rfl rfl rfl ?_
          refine X10_57g C 54 dX10_windows_51 rfl ?_
          refine X10_94g C (Or.inl rfl) 57 dX10_windows_54 rfl (fun x54 ex54 => ?_)
          have Sx54 : x54 = nI n := ex54.trans (cI_n fml48)
          refine G_icmp_ge C 123 60 dX10_windows_57 rfl rfl (fun c57 => ?_) (fun c57 => ?_)
          ·
            have n57 : ¬ k < n := fun h => c57 ((g_ltN (a := k) (b := n) (hx := Ey) (hy := Sx54) (by omega) (by omega)).mpr h)
            refine G_iload_n (i := 2) C 124 dX10_windows_123 rfl rfl rfl ?_
            refine G_if_ne C 131 127 dX10_windows_124 rfl rfl (fun c124 => ?_) (fun c124 => ?_)
            ·
              refine G_iload C 133 dX10_windows_131 rfl rfl ?_
              exact G_iret C dX10_windows_133 (⟨RC_q hR fql48, by
                  have e : k = n := by omega
                  subst e
                  unfold s_wind; rw [if_neg k7, if_neg k16, cum, hxn, if_neg c124]; exact hm⟩)
            ·
              refine G_iload_n (i := 3) C 128 dX10_windows_127 rfl rfl rfl ?_
              refine G_goto C 133 dX10_windows_128 rfl ?_
              exact G_iret C dX10_windows_133 (⟨RC_q hR fql48, by
                  have e : k = n := by omega
                  subst e
                  unfold s_wind; rw [if_neg k7, if_neg k16, cum, hxn, if_pos c124]; exact hb⟩)
          ·
            have n57 : k < n := (g_ltN (a := k) (b := n) (hx := Ey) (hy := Sx54) (by omega) (by omega)).mp c57
            refine G_aload_n (i := 0) C 61 dX10_windows_60 rfl rfl rfl ?_
            refine X10_61g C 64 dX10_windows_61 rfl ?_
            refine G_aload_n (i := 0) C 65 dX10_windows_64 rfl rfl rfl ?_
            refine X10_57g C 68 dX10_windows_65 rfl ?_
            refine G_callv 71 (G_runV C Kc_X9_become KV_X10_174 (by omega) (lW0 (Or.inr (Or.inl rfl))) (eW _ _ _ (Or.inr (Or.inl rfl))) rfl (c_X9_become 0 54 45 (Or.inr (Or.inl rfl)) (Or.inl rfl) (by decide) sl48) rfl rfl rfl (Nat.le_of_ble_eq_true rfl) rfl dX10_windows_68) rfl (fun s68 h68 => ?_)
            have fm_3 : cI TX nT n l 45 P s68 := cI_q fml48 (h68.1.UQ)
            have fq_3 : Fr mQ s s68 := Fr.tr fql48 (h68.1.UQ)
            have i_3 : cI TX nT n l 54 P s68 := cI_bec fm_3 h68.1 h68.2
            refine G_aload_n (i := 0) C 72 dX10_windows_71 rfl rfl rfl ?_
            refine X10_61g C 75 dX10_windows_72 rfl ?_
            refine X10_193g C (Or.inr (Or.inl rfl)) 78 dX10_windows_75 rfl ?_
            refine G_iload C 80 dX10_windows_78 rfl rfl ?_
            refine G_iconst (v := 1) C 81 dX10_windows_80 rfl rfl ?_
            refine G_aload_n (i := 0) C 82 dX10_windows_81 rfl rfl rfl ?_
            refine X10_61g C 85 dX10_windows_82 rfl ?_
            refine X10_193g C (Or.inr (Or.inl rfl)) 88 dX10_windows_85 rfl ?_
            refine G_iload C 90 dX10_windows_88 rfl rfl ?_
            refine G_iald (n := 6) C 91 (lW (Or.inr (Or.inl rfl)) (by decide)) (eW5 _ _ _ (Or.inr (Or.inl rfl))) (k) Ey (by omega) (by decide) dX10_windows_90 rfl (fun x90 ex90 => ?_)
            have Sx90 : x90 = P 5 (k) := ex90.trans (congrFun (congrFun i_3.2.1 5) _)
            refine G_isub C 92 dX10_windows_91 rfl (fun x91 ex91 => ?_)
            refine G_iast (n := 6) C 93 (lW (Or.inr (Or.inl rfl)) (by decide)) (fun σ => eW5 _ _ σ (Or.inr (Or.inl rfl))) (k) Ey (by omega) (by decide) (Nat.le_of_eq (nWi (Or.inr (Or.inl rfl)) (by decide) (by decide)).symm) dX10_windows_92 rfl (fun s92 es92 => ?_)
            have fm_4 : cI TX nT n l 45 P s92 := cI_q fm_3 (Fr.up es92 (mQ_w (by decide)))
            have fq_4 : Fr mQ s s92 := Fr.tr fq_3 (Fr.up es92 (mQ_w (by decide)))
            have i_4 : cI TX nT n l 54 (g_up P 5 k (1 - P 5 k)) s92 := by have z := cI_up5 i_3 es92; rw [ex91, Sx90] at z; exact z
            refine G_aload_n (i := 0) C 94 dX10_windows_93 rfl rfl rfl ?_
            refine X10_61g C 97 dX10_windows_94 rfl ?_
            refine G_iload_n (i := 1) C 98 dX10_windows_97 rfl rfl rfl ?_
            refine G_calli 101 (G_runV C Kc_X9_passMany KV_X10_178 (by omega) (lW0 (Or.inr (Or.inl rfl))) (eW _ _ _ (Or.inr (Or.inl rfl))) rfl (c_X9_passMany 0 TX nT n l 54 (g_up P 5 k (1 - P 5 k)) s92 i_4 m um eum (by omega)) rfl rfl rfl (Nat.le_of_ble_eq_true rfl) rfl dX10_windows_98) rfl (fun x98 s98 h98 => ?_)
            have fm_5 : cI TX nT n l 45 P s98 := cI_q fm_4 (h98.1.Q)
            have fq_5 : Fr mQ s s98 := Fr.tr fq_4 (h98.1.Q)
            have i_5 : cI TX nT n l 54 (x_run TX um (g_up P 5 k (1 - P 5 k))) s98 := h98.2.1
            have hf : x98 = (fun p => x_cr TX um (g_up P 5 p (1 - P 5 p))) k := h98.2.2
            have hfr : ∃ j, j < 2147483648 ∧ x98 = nI j := by obtain ⟨j, hj, ej⟩ := x_cr_r TX (g_up P 5 k (1 - P 5 k)) um; exact ⟨j, by omega, h98.2.2.trans ej⟩
            refine G_istore (L' := [some (.ref (e_ad E 0)), some (.int m), some (.int q), some (.int be), some (.int mo), some (.int y), some (.int x98)]) C 103 dX10_windows_101 rfl (Nat.le_of_ble_eq_true rfl) rfl rfl ?_
            refine G_iload C 105 dX10_windows_103 rfl rfl ?_
            refine G_iload C 107 dX10_windows_105 rfl rfl ?_
            refine G_icmp_le C 117 110 dX10_windows_107 rfl rfl (fun c107 => ?_) (fun c107 => ?_)
            ·
              refine G_iinc (w := 1) C 120 dX10_windows_117 rfl rfl rfl rfl (fun x117 ex117 => ?_)
              have Nx117 : x117 = nI (k + 1) := g_addN ex117 Ey rfl
              show GW SC E _ 120 [some (.ref (e_ad E 0)), some (.int m), some (.int q), some (.int be), some (.int mo), some (.int x117), some (.int x98)] [] s98
              refine G_goto C 48 dX10_windows_120 rfl ?_
              refine G_drop (L' := [some (.ref (e_ad E 0)), some (.int m), some (.int q), some (.int be), some (.int mo), some (.int x117), none]) ⟨rfl, rfl, rfl, rfl, rfl, rfl, trivial⟩ ?_
              exact ih48 (k + 1) be mo x117 s98 (g_cn (a := (k + 1)) Nx117 (by first | rfl | omega | (simp only [List.length_cons, List.length_drop]; done) | (simp only [List.length_cons, List.length_drop]; omega))) (by omega) (by rw [b_m, if_neg (by have z := c107; rw [hf, hm] at z; exact z)]; exact hm) (by rw [b_b, if_neg (by have z := c107; rw [hf, hm] at z; exact z)]; exact hb) fm_5 fq_5 (by omega)
            ·
              refine G_iload C 112 dX10_windows_110 rfl rfl ?_
              refine G_istore (L' := [some (.ref (e_ad E 0)), some (.int m), some (.int q), some (.int be), some (.int x98), some (.int y), some (.int x98)]) C 114 dX10_windows_112 rfl (Nat.le_of_ble_eq_true rfl) rfl rfl ?_
              refine G_iload C 116 dX10_windows_114 rfl rfl ?_
              refine G_istore_n (i := 3) (L' := [some (.ref (e_ad E 0)), some (.int m), some (.int q), some (.int y), some (.int x98), some (.int y), some (.int x98)]) C 117 dX10_windows_116 rfl rfl (Nat.le_of_ble_eq_true rfl) rfl rfl ?_
              refine G_iinc (w := 1) C 120 dX10_windows_117 rfl rfl rfl rfl (fun x117 ex117 => ?_)
              have Nx117 : x117 = nI (k + 1) := g_addN ex117 Ey rfl
              show GW SC E _ 120 [some (.ref (e_ad E 0)), some (.int m), some (.int q), some (.int y), some (.int x98), some (.int x117), some (.int x98)] [] s98
              refine G_goto C 48 dX10_windows_120 rfl ?_
              refine G_drop (L' := [some (.ref (e_ad E 0)), some (.int m), some (.int q), some (.int y), some (.int x98), some (.int x117), none]) ⟨rfl, rfl, rfl, rfl, rfl, rfl, trivial⟩ ?_
              exact ih48 (k + 1) y x98 x117 s98 (g_cn (a := (k + 1)) Nx117 (by first | rfl | omega | (simp only [List.length_cons, List.length_drop]; done) | (simp only [List.length_cons, List.length_drop]; omega))) (by omega) (by rw [b_m, if_pos (by have z := c107; rw [hf, hm] at z; exact z)]; exact hf) (by rw [b_b, if_pos (by have z := c107; rw [hf, hm] at z; exact z)]; exact Ey) fm_5 fq_5 (by omega)
      exact L48 (n + 1) 0 (-1) x40 0 s40 (g_cn (a := 0) rfl (by first | rfl | omega)) (by omega) (h40.2.2) (rfl) fm_2 fq_2 (by omega)
    ·
      have k16 := h13.symm.trans c16
      refine G_bipush (v := (-7)) C 21 dX10_windows_19 rfl rfl ?_
      exact G_iret C dX10_windows_21 (⟨RC_q hR fq, by unfold s_wind; rw [if_neg k7, if_pos k16]⟩)
