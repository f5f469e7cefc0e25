theorem mB_so {s B : gS} (h : mB s = B) {u : Nat} (hu : u < 4) : s 10 u = B 2 u := by
  rw [← h]
  exact (if_pos hu).symm
theorem mB_sz {s B : gS} (h : mB s = B) {u : Nat} (hu : u < 4) : s 11 u = B 3 u := by
  rw [← h]
  exact (if_pos hu).symm
theorem mB_nu {s B : gS} (h : mB s = B) {u j : Nat} (hu : u < 4) (hj : j < 40) : s 12 (40 * u + j) = B (4 + u) j := by
  rw [← h]
  have : u = 0 ∨ u = 1 ∨ u = 2 ∨ u = 3 := by omega
  rcases this with rfl | rfl | rfl | rfl <;> exact (if_pos hj).symm
theorem mB_n40 {s B : gS} (h : mB s = B) {u j : Nat} (hu : u < 4) (hj : 40 ≤ j) : B (4 + u) j = 0 := by
  rw [← h]
  have : u = 0 ∨ u = 1 ∨ u = 2 ∨ u = 3 := by omega
  rcases this with rfl | rfl | rfl | rfl <;> exact if_neg (by omega)
theorem Qn.c {s s' : gS} (h : Qn s s') {k : Nat} (h5 : 4 < k) (h16 : k < 16) : s' k = s k := h.1 k (by unfold mR; omega) (by omega)
theorem y_xx (a b : Int32) : a ^^^ b ^^^ b = a := by
  apply Int32.toBitVec_inj.mp
  rw [Int32.toBitVec_xor, Int32.toBitVec_xor, BitVec.xor_assoc]
  simp
theorem x_oth_n (TX : gTX) (P : gS) (f : Nat → Int32) : ∀ m i, i + m < 2147483648 → x_oth TX P f m i = -1 ∨ ∃ j, j < 2147483648 ∧ x_oth TX P f m i = nI j := by
  intro m
  induction m with
  | zero => intro i _; exact Or.inl rfl
  | succ m ih =>
    intro i hi
    unfold x_oth
    split
    · exact ih (i + 1) (by omega)
    · exact Or.inr ⟨i, by omega, rfl⟩
theorem dX11_sheetWrong_0 : decode cX11_sheetWrong 0 = .ok (.iload_n 1, 1) := by decide +kernel
theorem dX11_sheetWrong_1 : decode cX11_sheetWrong 1 = .ok (.iconst 0, 1) := by decide +kernel
theorem dX11_sheetWrong_2 : decode cX11_sheetWrong 2 = .ok (.iconst 3, 1) := by decide +kernel
theorem dX11_sheetWrong_3 : decode cX11_sheetWrong 3 = .ok (.invokestatic 78, 3) := by decide +kernel
theorem dX11_sheetWrong_6 : decode cX11_sheetWrong 6 = .ok (.ifCond .ne 6, 3) := by decide +kernel
theorem dX11_sheetWrong_9 : decode cX11_sheetWrong 9 = .ok (.bipush (-2), 2) := by decide +kernel
theorem dX11_sheetWrong_11 : decode cX11_sheetWrong 11 = .ok (.ireturn, 1) := by decide +kernel
theorem dX11_sheetWrong_12 : decode cX11_sheetWrong 12 = .ok (.aload_n 0, 1) := by decide +kernel
theorem dX11_sheetWrong_13 : decode cX11_sheetWrong 13 = .ok (.getfield 37, 3) := by decide +kernel
theorem dX11_sheetWrong_16 : decode cX11_sheetWrong 16 = .ok (.iload_n 1, 1) := by decide +kernel
theorem dX11_sheetWrong_17 : decode cX11_sheetWrong 17 = .ok (.iaload, 1) := by decide +kernel
theorem dX11_sheetWrong_18 : decode cX11_sheetWrong 18 = .ok (.iconst (-1), 1) := by decide +kernel
theorem dX11_sheetWrong_19 : decode cX11_sheetWrong 19 = .ok (.if_icmp .ne 6, 3) := by decide +kernel
theorem dX11_sheetWrong_22 : decode cX11_sheetWrong 22 = .ok (.bipush (-11), 2) := by decide +kernel
theorem dX11_sheetWrong_24 : decode cX11_sheetWrong 24 = .ok (.ireturn, 1) := by decide +kernel
theorem dX11_sheetWrong_25 : decode cX11_sheetWrong 25 = .ok (.aload_n 0, 1) := by decide +kernel
theorem dX11_sheetWrong_26 : decode cX11_sheetWrong 26 = .ok (.getfield 40, 3) := by decide +kernel
theorem dX11_sheetWrong_29 : decode cX11_sheetWrong 29 = .ok (.iload_n 1, 1) := by decide +kernel
theorem dX11_sheetWrong_30 : decode cX11_sheetWrong 30 = .ok (.iaload, 1) := by decide +kernel
theorem dX11_sheetWrong_31 : decode cX11_sheetWrong 31 = .ok (.bipush 20, 2) := by decide +kernel
theorem dX11_sheetWrong_33 : decode cX11_sheetWrong 33 = .ok (.if_icmp .le 8, 3) := by decide +kernel
theorem dX11_sheetWrong_36 : decode cX11_sheetWrong 36 = .ok (.bipush (-2), 2) := by decide +kernel
theorem dX11_sheetWrong_38 : decode cX11_sheetWrong 38 = .ok (.goto 4, 3) := by decide +kernel
theorem dX11_sheetWrong_41 : decode cX11_sheetWrong 41 = .ok (.iconst 0, 1) := by decide +kernel
theorem dX11_sheetWrong_42 : decode cX11_sheetWrong 42 = .ok (.ireturn, 1) := by decide +kernel
set_option maxHeartbeats 4000000 in
set_option maxRecDepth 100000 in
theorem c_X11_sheetWrong (d : Nat) (TX : gTX) (P B s : gS) (hR0 : RM TX P B s) (t : Int32) : gMt SM yX11_sheetWrong cX11_sheetWrong 2 (some .int) (d + 2) (fun ad => [.ref (ad 0), .int t]) s (gQi SM (fun r s' => s' = s ∧ r = s_ref B t)) := by
  obtain ⟨nT, n, l, hR⟩ := hR0
  have hI := hR.1
  have hn6 : n ≤ 6 := hI.2.1.2.1
  have hl6 : l < 6 := mI_l6 hI
  have hxn : x_n P = n := x_nOf hI.2.1.1 hn6
  have hbI := hR.2.2
  have hnT6 : nT ≤ 6 := hI.2.1.2.2.2.2.1
  obtain ⟨tn0, htn0, etn0⟩ := hbI.2.1
  refine gMt_of SM_ok (by decide +kernel) (fun ad => [some (.ref (ad 0)), some (.int t)]) (fun _ => rfl) (fun _ => rfl) (fun _ => Nat.le_of_ble_eq_true rfl) (fun E C0 => ?_)
  have C : gCx SM E RX11 cX11_sheetWrong 2 (some .int) (d + 2) := C0
  refine G_iload_n (i := 1) C 1 dX11_sheetWrong_0 rfl rfl rfl ?_
  refine G_iconst (v := 0) C 2 dX11_sheetWrong_1 rfl rfl ?_
  refine G_iconst (v := 3) C 3 dX11_sheetWrong_2 rfl rfl ?_
  refine G_calli 6 (G_runS C Kc_X11_in KS_X11_78 (by omega) (c_X11_in 0 t 0 3 s) rfl rfl (Nat.le_of_ble_eq_true rfl) rfl dX11_sheetWrong_3) rfl (fun x3 s3 h3 => ?_)
  obtain ⟨es3, h3⟩ := h3
  have es3 := es3.symm
  subst es3
  refine G_if_ne C 12 9 dX11_sheetWrong_6 rfl rfl (fun c6 => ?_) (fun c6 => ?_)
  ·
    have k6 := g_neT h3 c6
    obtain ⟨ut, hut, eut⟩ := x_inR (b := 3) k6 rfl (by decide)
    have cut : t.toNatClampNeg = ut := by rw [eut, nI_clamp (by omega)]
    refine G_aload_n (i := 0) C 13 dX11_sheetWrong_12 rfl rfl rfl ?_
    refine X11_37g C 16 dX11_sheetWrong_13 rfl ?_
    refine G_iload_n (i := 1) C 17 dX11_sheetWrong_16 rfl rfl rfl ?_
    refine G_iald (n := 4) C 18 (by decide) (eMk (by decide) _ _ _) (ut) eut (by omega) (by decide) dX11_sheetWrong_17 rfl (fun x17 ex17 => ?_)
    have Sx17 : x17 = B 2 ut := ex17.trans (mB_so hR.2.1 (by omega))
    refine G_iconst (v := (-1)) C 19 dX11_sheetWrong_18 rfl rfl ?_
    refine G_icmp_ne C 25 22 dX11_sheetWrong_19 rfl rfl (fun c19 => ?_) (fun c19 => ?_)
    ·
      refine G_aload_n (i := 0) C 26 dX11_sheetWrong_25 rfl rfl rfl ?_
      refine X11_40g C 29 dX11_sheetWrong_26 rfl ?_
      refine G_iload_n (i := 1) C 30 dX11_sheetWrong_29 rfl rfl rfl ?_
      refine G_iald (n := 4) C 31 (by decide) (eMk (by decide) _ _ _) (ut) eut (by omega) (by decide) dX11_sheetWrong_30 rfl (fun x30 ex30 => ?_)
      have Sx30 : x30 = B 3 ut := ex30.trans (mB_sz hR.2.1 (by omega))
      refine G_bipush (v := 20) C 33 dX11_sheetWrong_31 rfl rfl ?_
      refine G_icmp_le C 41 36 dX11_sheetWrong_33 rfl rfl (fun c33 => ?_) (fun c33 => ?_)
      ·
        refine G_iconst (v := 0) C 42 dX11_sheetWrong_41 rfl rfl ?_
        exact G_iret C dX11_sheetWrong_42 (⟨rfl, by unfold s_ref; rw [if_neg k6, cut, if_neg (fun z => c19 (Sx17.trans z)), if_neg (by rw [← Sx30]; exact c33)]⟩)
      ·
        refine G_bipush (v := (-2)) C 38 dX11_sheetWrong_36 rfl rfl ?_
        refine G_goto C 42 dX11_sheetWrong_38 rfl ?_
        exact G_iret C dX11_sheetWrong_42 (⟨rfl, by unfold s_ref; rw [if_neg k6, cut, if_neg (fun z => c19 (Sx17.trans z)), if_pos (by rw [← Sx30]; exact c33)]⟩)
    ·
      refine G_bipush (v := (-11)) C 24 dX11_sheetWrong_22 rfl rfl ?_
      exact G_iret C dX11_sheetWrong_24 (⟨rfl, by unfold s_ref; rw [if_neg k6, cut, if_pos (Sx17.symm.trans c19)]⟩)
  ·
    have k6 := h3.symm.trans c6
    refine G_bipush (v := (-2)) C 11 dX11_sheetWrong_9 rfl rfl ?_
    exact G_iret C dX11_sheetWrong_11 (⟨rfl, by unfold s_ref; rw [if_pos k6]⟩)
theorem dX11_unlike_0 : decode cX11_unlike 0 = .ok (.iconst (-1), 1) := by decide +kernel
theorem dX11_unlike_1 : decode cX11_unlike 1 = .ok (.istore_n 2, 1) := by decide +kernel
theorem dX11_unlike_2 : decode cX11_unlike 2 = .ok (.aload_n 0, 1) := by decide +kernel
theorem dX11_unlike_3 : decode cX11_unlike 3 = .ok (.invokevirtual 212, 3) := by decide +kernel
theorem dX11_unlike_6 : decode cX11_unlike 6 = .ok (.iconst 0, 1) := by decide +kernel
theorem dX11_unlike_7 : decode cX11_unlike 7 = .ok (.istore_n 3, 1) := by decide +kernel
theorem dX11_unlike_8 : decode cX11_unlike 8 = .ok (.iload_n 3, 1) := by decide +kernel
theorem dX11_unlike_9 : decode cX11_unlike 9 = .ok (.aload_n 0, 1) := by decide +kernel
theorem dX11_unlike_10 : decode cX11_unlike 10 = .ok (.getfield 40, 3) := by decide +kernel
theorem dX11_unlike_13 : decode cX11_unlike 13 = .ok (.iload_n 1, 1) := by decide +kernel
theorem dX11_unlike_14 : decode cX11_unlike 14 = .ok (.iaload, 1) := by decide +kernel
theorem dX11_unlike_15 : decode cX11_unlike 15 = .ok (.if_icmp .ge 40, 3) := by decide +kernel
theorem dX11_unlike_18 : decode cX11_unlike 18 = .ok (.iload_n 2, 1) := by decide +kernel
theorem dX11_unlike_19 : decode cX11_unlike 19 = .ok (.iconst (-1), 1) := by decide +kernel
theorem dX11_unlike_20 : decode cX11_unlike 20 = .ok (.if_icmp .ne 35, 3) := by decide +kernel
theorem dX11_unlike_23 : decode cX11_unlike 23 = .ok (.aload_n 0, 1) := by decide +kernel
theorem dX11_unlike_24 : decode cX11_unlike 24 = .ok (.getfield 43, 3) := by decide +kernel
theorem dX11_unlike_27 : decode cX11_unlike 27 = .ok (.bipush 40, 2) := by decide +kernel
theorem dX11_unlike_29 : decode cX11_unlike 29 = .ok (.iload_n 1, 1) := by decide +kernel
theorem dX11_unlike_30 : decode cX11_unlike 30 = .ok (.imul, 1) := by decide +kernel
theorem dX11_unlike_31 : decode cX11_unlike 31 = .ok (.iload_n 3, 1) := by decide +kernel
theorem dX11_unlike_32 : decode cX11_unlike 32 = .ok (.iadd, 1) := by decide +kernel
theorem dX11_unlike_33 : decode cX11_unlike 33 = .ok (.iaload, 1) := by decide +kernel
theorem dX11_unlike_34 : decode cX11_unlike 34 = .ok (.aload_n 0, 1) := by decide +kernel
theorem dX11_unlike_35 : decode cX11_unlike 35 = .ok (.invokevirtual 209, 3) := by decide +kernel
theorem dX11_unlike_38 : decode cX11_unlike 38 = .ok (.iconst 1, 1) := by decide +kernel
theorem dX11_unlike_39 : decode cX11_unlike 39 = .ok (.iadd, 1) := by decide +kernel
theorem dX11_unlike_40 : decode cX11_unlike 40 = .ok (.if_icmp .ne 7, 3) := by decide +kernel
theorem dX11_unlike_43 : decode cX11_unlike 43 = .ok (.iconst (-1), 1) := by decide +kernel
theorem dX11_unlike_44 : decode cX11_unlike 44 = .ok (.goto 4, 3) := by decide +kernel
theorem dX11_unlike_47 : decode cX11_unlike 47 = .ok (.iload_n 3, 1) := by decide +kernel
theorem dX11_unlike_48 : decode cX11_unlike 48 = .ok (.istore_n 2, 1) := by decide +kernel
theorem dX11_unlike_49 : decode cX11_unlike 49 = .ok (.iinc 3 1, 3) := by decide +kernel
theorem dX11_unlike_52 : decode cX11_unlike 52 = .ok (.goto (-44), 3) := by decide +kernel
theorem dX11_unlike_55 : decode cX11_unlike 55 = .ok (.aload_n 0, 1) := by decide +kernel
theorem dX11_unlike_56 : decode cX11_unlike 56 = .ok (.invokevirtual 218, 3) := by decide +kernel
theorem dX11_unlike_59 : decode cX11_unlike 59 = .ok (.iload_n 2, 1) := by decide +kernel
theorem dX11_unlike_60 : decode cX11_unlike 60 = .ok (.ireturn, 1) := by decide +kernel
set_option maxHeartbeats 4000000 in
set_option maxRecDepth 100000 in
theorem c_X11_unlike (d : Nat) (TX : gTX) (nT n l : Nat) (P s : gS) (hI : mI TX nT n l P s) (t : Int32) (u : Nat) (et : t = nI u) (hu : u < 4) (z : Nat) (hz : z ≤ 20) (fs : Nat → Int32) (ez : s 11 u = nI z) (hf : ∀ j, j < 40 → s 12 (40 * u + j) = fs j) : gMt SM yX11_unlike cX11_unlike 4 (some .int) (d + 10) (fun ad => [.ref (ad 0), .int t]) s (gQi SM (fun r s' => Fr mK s s' ∧ mI TX nT n l P s' ∧ r = x_oth TX P fs z 0)) := by
  have hn6 : n ≤ 6 := hI.2.1.2.1
  have hl6 : l < 6 := mI_l6 hI
  refine gMt_of SM_ok (by decide +kernel) (fun ad => [some (.ref (ad 0)), some (.int t), none, none]) (fun _ => rfl) (fun _ => rfl) (fun _ => Nat.le_of_ble_eq_true rfl) (fun E C0 => ?_)
  have C : gCx SM E RX11 cX11_unlike 4 (some .int) (d + 10) := C0
  have i : mI TX nT n l P s := hI
  have fk : Fr mK s s := Fr.rf
  refine G_iconst (v := (-1)) C 1 dX11_unlike_0 rfl rfl ?_
  refine G_istore_n (i := 2) (L' := [some (.ref (e_ad E 0)), some (.int t), some (.int (-1)), none]) C 2 dX11_unlike_1 rfl rfl (Nat.le_of_ble_eq_true rfl) rfl rfl ?_
  refine G_aload_n (i := 0) C 3 dX11_unlike_2 rfl rfl rfl ?_
  refine G_callv 6 (G_runV C Kc_X11_keeps KV_X11_212 (by omega) (by decide) (eM _ _ _) rfl (c_X11_keeps 0 s) rfl rfl rfl (Nat.le_of_ble_eq_true rfl) rfl dX11_unlike_3) rfl (fun s3 h3 => ?_)
  have i_1 : mI TX nT n l P s3 := mI_kp i h3.1
  have fk_1 : Fr mK s s3 := Fr.tr fk (h3.1.mono (fun k hk => by unfold mK; omega))
  have kp1 : kp s s3 := h3.2
  refine G_iconst (v := 0) C 7 dX11_unlike_6 rfl rfl ?_
  refine G_istore_n (i := 3) (L' := [some (.ref (e_ad E 0)), some (.int t), some (.int (-1)), some (.int 0)]) C 8 dX11_unlike_7 rfl rfl (Nat.le_of_ble_eq_true rfl) rfl rfl ?_
  have L8 : ∀ (f8 : Nat) (k : Nat) (fi y : Int32) (sl8 : gS) (Ey : y = nI k) (hk : k ≤ z) (hw : (fi = -1 ∧ x_oth TX P fs z 0 = x_oth TX P fs (z - k) k) ∨ (¬ fi = -1 ∧ x_oth TX P fs z 0 = fi)) (il8 : mI TX nT n l (x_run TX k P) sl8) (kpl8 : kp s sl8) (fkl8 : Fr mK s sl8), z < k + f8 → GW SM E (gFin SM E (gQi SM (fun r s' => Fr mK s s' ∧ mI TX nT n l P s' ∧ r = x_oth TX P fs z 0))) 8 [some (.ref (e_ad E 0)), some (.int t), some (.int fi), some (.int y)] [] sl8 := by
    intro f8
    induction f8 with
    | zero =>
      intro k fi y sl8 Ey hk hw il8 kpl8 fkl8 hf8
      exact absurd hf8 (by omega)
    | succ f8 ih8 =>
      intro k fi y sl8 Ey hk hw il8 kpl8 fkl8 hf8
      refine G_iload_n (i := 3) C 9 dX11_unlike_8 rfl rfl rfl ?_
      refine G_aload_n (i := 0) C 10 dX11_unlike_9 rfl rfl rfl ?_
      refine X11_40g C 13 dX11_unlike_10 rfl ?_
      refine G_iload_n (i := 1) C 14 dX11_unlike_13 rfl rfl rfl ?_
      refine G_iald (n := 4) C 15 (by decide) (eMk (by decide) _ _ _) (u) et (by omega) (by decide) dX11_unlike_14 rfl (fun x14 ex14 => ?_)
      have Sx14 : x14 = nI z := ex14.trans ((congrFun (fkl8 11 (by unfold mK; omega)) u).trans ez)
      refine G_icmp_ge C 55 18 dX11_unlike_15 rfl rfl (fun c15 => ?_) (fun c15 => ?_)
      ·
        have n15 : ¬ k < z := fun h => c15 ((g_ltN (a := k) (b := z) (hx := Ey) (hy := Sx14) (by omega) (by omega)).mpr h)
        refine G_aload_n (i := 0) C 56 dX11_unlike_55 rfl rfl rfl ?_
        refine G_callv 59 (G_runV C Kc_X11_lays KV_X11_218 (by omega) (by decide) (eM _ _ _) rfl (c_X11_lays 0 sl8) rfl rfl rfl (Nat.le_of_ble_eq_true rfl) rfl dX11_unlike_56) rfl (fun s56 h56 => ?_)
        have i_2 : mI TX nT n l P s56 := mI_lays (s1 := s) hI kpl8 il8 (x_run_1 _ _ _) fkl8 h56.2 h56.1
        have fk_2 : Fr mK s s56 := Fr.tr fkl8 (h56.1.mono (fun k hk => by unfold mK; omega))
        refine G_iload_n (i := 2) C 60 dX11_unlike_59 rfl rfl rfl ?_
        have hwr : fi = x_oth TX P fs z 0 := by
          rcases hw with ⟨w1, w2⟩ | ⟨w1, w2⟩
          · rw [w1, w2, show z - k = 0 by omega]; rfl
          · exact w2.symm
        exact G_iret C dX11_unlike_60 (⟨fk_2, i_2, hwr⟩)
      ·
        have n15 : k < z := (g_ltN (a := k) (b := z) (hx := Ey) (hy := Sx14) (by omega) (by omega)).mp c15
        refine G_iload_n (i := 2) C 19 dX11_unlike_18 rfl rfl rfl ?_
        refine G_iconst (v := (-1)) C 20 dX11_unlike_19 rfl rfl ?_
        refine G_icmp_ne C 55 23 dX11_unlike_20 rfl rfl (fun c20 => ?_) (fun c20 => ?_)
        ·
          refine G_aload_n (i := 0) C 56 dX11_unlike_55 rfl rfl rfl ?_
          refine G_callv 59 (G_runV C Kc_X11_lays KV_X11_218 (by omega) (by decide) (eM _ _ _) rfl (c_X11_lays 0 sl8) rfl rfl rfl (Nat.le_of_ble_eq_true rfl) rfl dX11_unlike_56) rfl (fun s56 h56 => ?_)
          have i_2 : mI TX nT n l P s56 := mI_lays (s1 := s) hI kpl8 il8 (x_run_1 _ _ _) fkl8 h56.2 h56.1
          have fk_2 : Fr mK s s56 := Fr.tr fkl8 (h56.1.mono (fun k hk => by unfold mK; omega))
          refine G_iload_n (i := 2) C 60 dX11_unlike_59 rfl rfl rfl ?_
          have hwr : fi = x_oth TX P fs z 0 := (hw.resolve_left (fun w => c20 w.1)).2.symm
          exact G_iret C dX11_unlike_60 (⟨fk_2, i_2, hwr⟩)
        ·
          refine G_aload_n (i := 0) C 24 dX11_unlike_23 rfl rfl rfl ?_
          refine X11_43g C 27 dX11_unlike_24 rfl ?_
          refine G_bipush (v := 40) C 29 dX11_unlike_27 rfl rfl ?_
          refine G_iload_n (i := 1) C 30 dX11_unlike_29 rfl rfl rfl ?_
          refine G_imul C 31 dX11_unlike_30 rfl (fun x30 ex30 => ?_)
          have Nx30 : x30 = nI (40 * u) := g_mulN ex30 rfl et
          refine G_iload_n (i := 3) C 32 dX11_unlike_31 rfl rfl rfl ?_
          refine G_iadd C 33 dX11_unlike_32 rfl (fun x32 ex32 => ?_)
          have Nx32 : x32 = nI ((40 * u) + k) := g_addN ex32 Nx30 Ey
          refine G_iald (n := 160) C 34 (by decide) (eMk (by decide) _ _ _) (((40 * u) + k)) Nx32 (by omega) (by decide) dX11_unlike_33 rfl (fun x33 ex33 => ?_)
          have Sx33 : x33 = fs k := ex33.trans ((congrFun (fkl8 12 (by unfold mK; omega)) _).trans (hf k (by omega)))
          refine G_aload_n (i := 0) C 35 dX11_unlike_34 rfl rfl rfl ?_
          refine G_calli 38 (G_runV C Kc_X11_hourOf KV_X11_209 (by omega) (by decide) (eM _ _ _) rfl (c_X11_hourOf 0 TX nT n l (x_run TX k P) sl8 il8) rfl rfl rfl (Nat.le_of_ble_eq_true rfl) rfl dX11_unlike_35) rfl (fun x35 s35 h35 => ?_)
          have i_2 : mI TX nT n l (x_run TX (k + 1) P) s35 := h35.2.1
          have kp_1 : kp s s35 := kp_fr kpl8 h35.1 (by unfold mH; omega)
          have fk_2 : Fr mK s s35 := Fr.tr fkl8 h35.1.HK
          refine G_iconst (v := 1) C 39 dX11_unlike_38 rfl rfl ?_
          refine G_iadd C 40 dX11_unlike_39 rfl (fun x39 ex39 => ?_)
          refine G_icmp_ne C 47 43 dX11_unlike_40 rfl rfl (fun c40 => ?_) (fun c40 => ?_)
          ·
            refine G_iload_n (i := 3) C 48 dX11_unlike_47 rfl rfl rfl ?_
            refine G_istore_n (i := 2) (L' := [some (.ref (e_ad E 0)), some (.int t), some (.int y), some (.int y)]) C 49 dX11_unlike_48 rfl rfl (Nat.le_of_ble_eq_true rfl) rfl rfl ?_
            refine G_iinc (w := 1) C 52 dX11_unlike_49 rfl rfl rfl rfl (fun x49 ex49 => ?_)
            have Nx49 : x49 = nI (k + 1) := g_addN ex49 Ey rfl
            show GW SM E _ 52 [some (.ref (e_ad E 0)), some (.int t), some (.int y), some (.int x49)] [] s35
            refine G_goto C 8 dX11_unlike_52 rfl ?_
            exact ih8 (k + 1) y x49 s35 (g_cn (a := (k + 1)) Nx49 (by first | rfl | omega | (simp only [List.length_cons, List.length_drop]; done) | (simp only [List.length_cons, List.length_drop]; omega))) (by omega) (by
                  have hw1 := (hw.resolve_right (fun z => z.1 c20)).2
                  exact Or.inr ⟨by rw [Ey]; exact nI_nm1 (by omega), by rw [hw1, show z - k = (z - (k + 1)) + 1 by omega, x_oth, if_neg (by rw [← h35.2.2, ← ex39, ← Sx33]; exact fun w => c40 w.symm)]; exact Ey.symm⟩) (i_2) kp_1 fk_2 (by omega)
          ·
            refine G_iconst (v := (-1)) C 44 dX11_unlike_43 rfl rfl ?_
            refine G_goto C 48 dX11_unlike_44 rfl ?_
            refine G_istore_n (i := 2) (L' := [some (.ref (e_ad E 0)), some (.int t), some (.int (-1)), some (.int y)]) C 49 dX11_unlike_48 rfl rfl (Nat.le_of_ble_eq_true rfl) rfl rfl ?_
            refine G_iinc (w := 1) C 52 dX11_unlike_49 rfl rfl rfl rfl (fun x49 ex49 => ?_)
            have Nx49 : x49 = nI (k + 1) := g_addN ex49 Ey rfl
            show GW SM E _ 52 [some (.ref (e_ad E 0)), some (.int t), some (.int (-1)), some (.int x49)] [] s35
            refine G_goto C 8 dX11_unlike_52 rfl ?_
            exact ih8 (k + 1) (-1) x49 s35 (g_cn (a := (k + 1)) Nx49 (by first | rfl | omega | (simp only [List.length_cons, List.length_drop]; done) | (simp only [List.length_cons, List.length_drop]; omega))) (by omega) (by
                  have hw1 := (hw.resolve_right (fun z => z.1 c20)).2
                  exact Or.inl ⟨rfl, by rw [hw1, show z - k = (z - (k + 1)) + 1 by omega, x_oth, if_pos (by rw [← h35.2.2, ← ex39, ← Sx33]; exact c40.symm)]⟩) (i_2) kp_1 fk_2 (by omega)
  exact L8 (z + 1) 0 (-1) 0 s3 (g_cn (a := 0) rfl (by first | rfl | omega)) (by omega) (Or.inl ⟨rfl, rfl⟩) (i_1) kp1 fk_1 (by omega)
theorem dX11_judge_0 : decode cX11_judge 0 = .ok (.aload_n 0, 1) := by decide +kernel
theorem dX11_judge_1 : decode cX11_judge 1 = .ok (.iload_n 1, 1) := by decide +kernel
theorem dX11_judge_2 : decode cX11_judge 2 = .ok (.invokevirtual 245, 3) := by decide +kernel
theorem dX11_judge_5 : decode cX11_judge 5 = .ok (.istore_n 2, 1) := by decide +kernel
theorem dX11_judge_6 : decode cX11_judge 6 = .ok (.iload_n 2, 1) := by decide +kernel
theorem dX11_judge_7 : decode cX11_judge 7 = .ok (.ifCond .ne 11, 3) := by decide +kernel
theorem dX11_judge_10 : decode cX11_judge 10 = .ok (.aload_n 0, 1) := by decide +kernel
theorem dX11_judge_11 : decode cX11_judge 11 = .ok (.iload_n 1, 1) := by decide +kernel
theorem dX11_judge_12 : decode cX11_judge 12 = .ok (.invokevirtual 248, 3) := by decide +kernel
theorem dX11_judge_15 : decode cX11_judge 15 = .ok (.goto 4, 3) := by decide +kernel
theorem dX11_judge_18 : decode cX11_judge 18 = .ok (.iload_n 2, 1) := by decide +kernel
theorem dX11_judge_19 : decode cX11_judge 19 = .ok (.ireturn, 1) := by decide +kernel
set_option maxHeartbeats 4000000 in
set_option maxRecDepth 100000 in
theorem c_X11_judge (d : Nat) (TX : gTX) (P B s : gS) (hR0 : RM TX P B s) (t : Int32) : gMt SM yX11_judge cX11_judge 3 (some .int) (d + 11) (fun ad => [.ref (ad 0), .int t]) s (gQi SM (fun r s' => RM TX P B s' ∧ r = s_judge TX P B t)) := by
  obtain ⟨nT, n, l, hR⟩ := hR0
  have hI := hR.1
  have hn6 : n ≤ 6 := hI.2.1.2.1
  have hl6 : l < 6 := mI_l6 hI
  have hxn : x_n P = n := x_nOf hI.2.1.1 hn6
  have hbI := hR.2.2
  have hnT6 : nT ≤ 6 := hI.2.1.2.2.2.2.1
  obtain ⟨tn0, htn0, etn0⟩ := hbI.2.1
  refine gMt_of SM_ok (by decide +kernel) (fun ad => [some (.ref (ad 0)), some (.int t), none]) (fun _ => rfl) (fun _ => rfl) (fun _ => Nat.le_of_ble_eq_true rfl) (fun E C0 => ?_)
  have C : gCx SM E RX11 cX11_judge 3 (some .int) (d + 11) := C0
  have fn : Qn s s := Qn.rf
  have i : mI TX nT n l P s := hI
  refine G_aload_n (i := 0) C 1 dX11_judge_0 rfl rfl rfl ?_
  refine G_iload_n (i := 1) C 2 dX11_judge_1 rfl rfl rfl ?_
  refine G_calli 5 (G_runV C Kc_X11_sheetWrong KV_X11_245 (by omega) (by decide) (eM _ _ _) rfl (c_X11_sheetWrong 0 TX P B s ⟨nT, n, l, hR⟩ t) rfl rfl rfl (Nat.le_of_ble_eq_true rfl) rfl dX11_judge_2) rfl (fun x2 s2 h2 => ?_)
  obtain ⟨es2, h2⟩ := h2
  have es2 := es2.symm
  subst es2
  refine G_istore_n (i := 2) (L' := [some (.ref (e_ad E 0)), some (.int t), some (.int x2)]) C 6 dX11_judge_5 rfl rfl (Nat.le_of_ble_eq_true rfl) rfl rfl ?_
  refine G_iload_n (i := 2) C 7 dX11_judge_6 rfl rfl rfl ?_
  refine G_if_ne C 18 10 dX11_judge_7 rfl rfl (fun c7 => ?_) (fun c7 => ?_)
  ·
    have k7 := g_neT h2 c7
    refine G_iload_n (i := 2) C 19 dX11_judge_18 rfl rfl rfl ?_
    exact G_iret C dX11_judge_19 (⟨⟨nT, n, l, hR⟩, by unfold s_judge; rw [if_neg k7]; exact h2⟩)
  ·
    have k7 := h2.symm.trans c7
    obtain ⟨ut, hut, eut, cut, z, hz20, ez⟩ := s_refI hbI.2.2.2.2.1 k7
    refine G_aload_n (i := 0) C 11 dX11_judge_10 rfl rfl rfl ?_
    refine G_iload_n (i := 1) C 12 dX11_judge_11 rfl rfl rfl ?_
    refine G_calli 15 (G_runV C Kc_X11_unlike KV_X11_248 (by omega) (by decide) (eM _ _ _) rfl (c_X11_unlike 0 TX nT n l P s i t ut eut hut z hz20 (B (4 + ut)) ((congrFun (fn.c (by omega) (by omega)) ut).trans ((mB_sz hR.2.1 hut).trans ez)) (fun j hj => (congrFun (fn.c (by omega) (by omega)) _).trans (mB_nu hR.2.1 hut hj))) rfl rfl rfl (Nat.le_of_ble_eq_true rfl) rfl dX11_judge_12) rfl (fun x12 s12 h12 => ?_)
    have fn_1 : Qn s s12 := Qn.tr fn (h12.1.KR)
    have i_1 : mI TX nT n l P s12 := h12.2.1
    refine G_goto C 19 dX11_judge_15 rfl ?_
    exact G_iret C dX11_judge_19 (⟨RM_i hR i_1 fn_1, by unfold s_judge x_un; rw [if_pos k7, cut, ez, nI_clamp (by omega)]; exact h12.2.2⟩)
theorem dX11_kinds_0 : decode cX11_kinds 0 = .ok (.aload_n 0, 1) := by decide +kernel
theorem dX11_kinds_1 : decode cX11_kinds 1 = .ok (.iload_n 1, 1) := by decide +kernel
theorem dX11_kinds_2 : decode cX11_kinds 2 = .ok (.invokevirtual 245, 3) := by decide +kernel
theorem dX11_kinds_5 : decode cX11_kinds 5 = .ok (.istore 4, 2) := by decide +kernel
theorem dX11_kinds_7 : decode cX11_kinds 7 = .ok (.iload 4, 2) := by decide +kernel
theorem dX11_kinds_9 : decode cX11_kinds 9 = .ok (.ifCond .eq 6, 3) := by decide +kernel
theorem dX11_kinds_12 : decode cX11_kinds 12 = .ok (.iload 4, 2) := by decide +kernel
theorem dX11_kinds_14 : decode cX11_kinds 14 = .ok (.ireturn, 1) := by decide +kernel
theorem dX11_kinds_15 : decode cX11_kinds 15 = .ok (.aload_n 0, 1) := by decide +kernel
theorem dX11_kinds_16 : decode cX11_kinds 16 = .ok (.iload_n 2, 1) := by decide +kernel
theorem dX11_kinds_17 : decode cX11_kinds 17 = .ok (.invokevirtual 164, 3) := by decide +kernel
theorem dX11_kinds_20 : decode cX11_kinds 20 = .ok (.ifCond .ne 6, 3) := by decide +kernel
theorem dX11_kinds_23 : decode cX11_kinds 23 = .ok (.bipush (-5), 2) := by decide +kernel
theorem dX11_kinds_25 : decode cX11_kinds 25 = .ok (.ireturn, 1) := by decide +kernel
theorem dX11_kinds_26 : decode cX11_kinds 26 = .ok (.iload_n 3, 1) := by decide +kernel
theorem dX11_kinds_27 : decode cX11_kinds 27 = .ok (.iconst 0, 1) := by decide +kernel
theorem dX11_kinds_28 : decode cX11_kinds 28 = .ok (.iconst 1, 1) := by decide +kernel
theorem dX11_kinds_29 : decode cX11_kinds 29 = .ok (.invokestatic 78, 3) := by decide +kernel
theorem dX11_kinds_32 : decode cX11_kinds 32 = .ok (.ifCond .ne 6, 3) := by decide +kernel
theorem dX11_kinds_35 : decode cX11_kinds 35 = .ok (.bipush (-7), 2) := by decide +kernel
theorem dX11_kinds_37 : decode cX11_kinds 37 = .ok (.ireturn, 1) := by decide +kernel
theorem dX11_kinds_38 : decode cX11_kinds 38 = .ok (.aload_n 0, 1) := by decide +kernel
theorem dX11_kinds_39 : decode cX11_kinds 39 = .ok (.getfield 7, 3) := by decide +kernel
theorem dX11_kinds_42 : decode cX11_kinds 42 = .ok (.iload_n 2, 1) := by decide +kernel
theorem dX11_kinds_43 : decode cX11_kinds 43 = .ok (.iaload, 1) := by decide +kernel
theorem dX11_kinds_44 : decode cX11_kinds 44 = .ok (.istore 5, 2) := by decide +kernel
theorem dX11_kinds_46 : decode cX11_kinds 46 = .ok (.aload_n 0, 1) := by decide +kernel
theorem dX11_kinds_47 : decode cX11_kinds 47 = .ok (.getfield 13, 3) := by decide +kernel
theorem dX11_kinds_50 : decode cX11_kinds 50 = .ok (.iload_n 2, 1) := by decide +kernel
theorem dX11_kinds_51 : decode cX11_kinds 51 = .ok (.iaload, 1) := by decide +kernel
theorem dX11_kinds_52 : decode cX11_kinds 52 = .ok (.istore 6, 2) := by decide +kernel
theorem dX11_kinds_54 : decode cX11_kinds 54 = .ok (.iconst 0, 1) := by decide +kernel
theorem dX11_kinds_55 : decode cX11_kinds 55 = .ok (.istore 7, 2) := by decide +kernel
theorem dX11_kinds_57 : decode cX11_kinds 57 = .ok (.iconst 0, 1) := by decide +kernel
theorem dX11_kinds_58 : decode cX11_kinds 58 = .ok (.istore 8, 2) := by decide +kernel
theorem dX11_kinds_60 : decode cX11_kinds 60 = .ok (.iload 8, 2) := by decide +kernel
theorem dX11_kinds_62 : decode cX11_kinds 62 = .ok (.iload_n 3, 1) := by decide +kernel
theorem dX11_kinds_63 : decode cX11_kinds 63 = .ok (.ifCond .ne 8, 3) := by decide +kernel
theorem dX11_kinds_66 : decode cX11_kinds 66 = .ok (.bipush 6, 2) := by decide +kernel
theorem dX11_kinds_68 : decode cX11_kinds 68 = .ok (.goto 5, 3) := by decide +kernel
theorem dX11_kinds_71 : decode cX11_kinds 71 = .ok (.bipush 10, 2) := by decide +kernel
theorem dX11_kinds_73 : decode cX11_kinds 73 = .ok (.if_icmp .ge 66, 3) := by decide +kernel
theorem dX11_kinds_76 : decode cX11_kinds 76 = .ok (.aload_n 0, 1) := by decide +kernel
theorem dX11_kinds_77 : decode cX11_kinds 77 = .ok (.getfield 7, 3) := by decide +kernel
theorem dX11_kinds_80 : decode cX11_kinds 80 = .ok (.iload_n 2, 1) := by decide +kernel
theorem dX11_kinds_81 : decode cX11_kinds 81 = .ok (.iload_n 3, 1) := by decide +kernel
theorem dX11_kinds_82 : decode cX11_kinds 82 = .ok (.ifCond .ne 8, 3) := by decide +kernel
theorem dX11_kinds_85 : decode cX11_kinds 85 = .ok (.iload 8, 2) := by decide +kernel
theorem dX11_kinds_87 : decode cX11_kinds 87 = .ok (.goto 5, 3) := by decide +kernel
theorem dX11_kinds_90 : decode cX11_kinds 90 = .ok (.iload 5, 2) := by decide +kernel
theorem dX11_kinds_92 : decode cX11_kinds 92 = .ok (.iastore, 1) := by decide +kernel
theorem dX11_kinds_93 : decode cX11_kinds 93 = .ok (.aload_n 0, 1) := by decide +kernel
theorem dX11_kinds_94 : decode cX11_kinds 94 = .ok (.getfield 13, 3) := by decide +kernel
theorem dX11_kinds_97 : decode cX11_kinds 97 = .ok (.iload_n 2, 1) := by decide +kernel
theorem dX11_kinds_98 : decode cX11_kinds 98 = .ok (.iload_n 3, 1) := by decide +kernel
theorem dX11_kinds_99 : decode cX11_kinds 99 = .ok (.iconst 1, 1) := by decide +kernel
theorem dX11_kinds_100 : decode cX11_kinds 100 = .ok (.if_icmp .ne 8, 3) := by decide +kernel
theorem dX11_kinds_103 : decode cX11_kinds 103 = .ok (.iload 8, 2) := by decide +kernel
theorem dX11_kinds_105 : decode cX11_kinds 105 = .ok (.goto 5, 3) := by decide +kernel
theorem dX11_kinds_108 : decode cX11_kinds 108 = .ok (.iload 6, 2) := by decide +kernel
theorem dX11_kinds_110 : decode cX11_kinds 110 = .ok (.iastore, 1) := by decide +kernel
theorem dX11_kinds_111 : decode cX11_kinds 111 = .ok (.iload 7, 2) := by decide +kernel
theorem dX11_kinds_113 : decode cX11_kinds 113 = .ok (.aload_n 0, 1) := by decide +kernel
theorem dX11_kinds_114 : decode cX11_kinds 114 = .ok (.iload_n 1, 1) := by decide +kernel
theorem dX11_kinds_115 : decode cX11_kinds 115 = .ok (.invokevirtual 248, 3) := by decide +kernel
theorem dX11_kinds_118 : decode cX11_kinds 118 = .ok (.iconst (-1), 1) := by decide +kernel
theorem dX11_kinds_119 : decode cX11_kinds 119 = .ok (.if_icmp .ne 10, 3) := by decide +kernel
theorem dX11_kinds_122 : decode cX11_kinds 122 = .ok (.iconst 1, 1) := by decide +kernel
theorem dX11_kinds_123 : decode cX11_kinds 123 = .ok (.iload 8, 2) := by decide +kernel
theorem dX11_kinds_125 : decode cX11_kinds 125 = .ok (.ishl, 1) := by decide +kernel
theorem dX11_kinds_126 : decode cX11_kinds 126 = .ok (.goto 4, 3) := by decide +kernel
theorem dX11_kinds_129 : decode cX11_kinds 129 = .ok (.iconst 0, 1) := by decide +kernel
theorem dX11_kinds_130 : decode cX11_kinds 130 = .ok (.ior, 1) := by decide +kernel
theorem dX11_kinds_131 : decode cX11_kinds 131 = .ok (.istore 7, 2) := by decide +kernel
theorem dX11_kinds_133 : decode cX11_kinds 133 = .ok (.iinc 8 1, 3) := by decide +kernel
theorem dX11_kinds_136 : decode cX11_kinds 136 = .ok (.goto (-76), 3) := by decide +kernel
theorem dX11_kinds_139 : decode cX11_kinds 139 = .ok (.aload_n 0, 1) := by decide +kernel
theorem dX11_kinds_140 : decode cX11_kinds 140 = .ok (.getfield 7, 3) := by decide +kernel
theorem dX11_kinds_143 : decode cX11_kinds 143 = .ok (.iload_n 2, 1) := by decide +kernel
theorem dX11_kinds_144 : decode cX11_kinds 144 = .ok (.iload 5, 2) := by decide +kernel
theorem dX11_kinds_146 : decode cX11_kinds 146 = .ok (.iastore, 1) := by decide +kernel
theorem dX11_kinds_147 : decode cX11_kinds 147 = .ok (.aload_n 0, 1) := by decide +kernel
theorem dX11_kinds_148 : decode cX11_kinds 148 = .ok (.getfield 13, 3) := by decide +kernel
theorem dX11_kinds_151 : decode cX11_kinds 151 = .ok (.iload_n 2, 1) := by decide +kernel
theorem dX11_kinds_152 : decode cX11_kinds 152 = .ok (.iload 6, 2) := by decide +kernel
theorem dX11_kinds_154 : decode cX11_kinds 154 = .ok (.iastore, 1) := by decide +kernel
theorem dX11_kinds_155 : decode cX11_kinds 155 = .ok (.iload 7, 2) := by decide +kernel
theorem dX11_kinds_157 : decode cX11_kinds 157 = .ok (.ireturn, 1) := by decide +kernel
set_option maxHeartbeats 4000000 in
set_option maxRecDepth 100000 in
theorem c_X11_kinds (d : Nat) (TX : gTX) (P B s : gS) (hR0 : RM TX P B s) (t p q : Int32) : gMt SM yX11_kinds cX11_kinds 9 (some .int) (d + 11) (fun ad => [.ref (ad 0), .int t, .int p, .int q]) s (gQi SM (fun r s' => RM TX P B s' ∧ r = s_kinds TX P B t p q)) := by
  obtain ⟨nT, n, l, hR⟩ := hR0
  have hI := hR.1
  have hn6 : n ≤ 6 := hI.2.1.2.1
  have hl6 : l < 6 := mI_l6 hI
  have hxn : x_n P = n := x_nOf hI.2.1.1 hn6
  have hbI := hR.2.2
  have hnT6 : nT ≤ 6 := hI.2.1.2.2.2.2.1
  obtain ⟨tn0, htn0, etn0⟩ := hbI.2.1
  refine gMt_of SM_ok (by decide +kernel) (fun ad => [some (.ref (ad 0)), some (.int t), some (.int p), some (.int q), none, none, none, none, none]) (fun _ => rfl) (fun _ => rfl) (fun _ => Nat.le_of_ble_eq_true rfl) (fun E C0 => ?_)
  have C : gCx SM E RX11 cX11_kinds 9 (some .int) (d + 11) := C0
  have fn : Qn s s := Qn.rf
  have i : mI TX nT n l P s := hI
  refine G_aload_n (i := 0) C 1 dX11_kinds_0 rfl rfl rfl ?_
  refine G_iload_n (i := 1) C 2 dX11_kinds_1 rfl rfl rfl ?_
  refine G_calli 5 (G_runV C Kc_X11_sheetWrong KV_X11_245 (by omega) (by decide) (eM _ _ _) rfl (c_X11_sheetWrong 0 TX P B s ⟨nT, n, l, hR⟩ t) rfl rfl rfl (Nat.le_of_ble_eq_true rfl) rfl dX11_kinds_2) rfl (fun x2 s2 h2 => ?_)
  obtain ⟨es2, h2⟩ := h2
  have es2 := es2.symm
  subst es2
  refine G_istore (L' := [some (.ref (e_ad E 0)), some (.int t), some (.int p), some (.int q), some (.int x2), none, none, none, none]) C 7 dX11_kinds_5 rfl (Nat.le_of_ble_eq_true rfl) rfl rfl ?_
  refine G_iload C 9 dX11_kinds_7 rfl rfl ?_
  refine G_if_eq C 15 12 dX11_kinds_9 rfl rfl (fun c9 => ?_) (fun c9 => ?_)
  ·
    have k9 := h2.symm.trans c9
    obtain ⟨ut, hut, eut, cut, z, hz20, ez⟩ := s_refI hbI.2.2.2.2.1 k9
    refine G_aload_n (i := 0) C 16 dX11_kinds_15 rfl rfl rfl ?_
    refine G_iload_n (i := 2) C 17 dX11_kinds_16 rfl rfl rfl ?_
    refine G_calli 20 (G_runV C Kc_X11_isOne KV_X11_164 (by omega) (by decide) (eM _ _ _) rfl (c_X11_isOne 0 n hn6 s (mI_n i) p) rfl rfl rfl (Nat.le_of_ble_eq_true rfl) rfl dX11_kinds_17) rfl (fun x17 s17 h17 => ?_)
    obtain ⟨es17, h17⟩ := h17
    have es17 := es17.symm
    subst es17
    refine G_if_ne C 26 23 dX11_kinds_20 rfl rfl (fun c20 => ?_) (fun c20 => ?_)
    ·
      have k20 := g_neT h17 c20
      obtain ⟨up, hup, eup⟩ := x_oneT hn6 k20
      have cup : p.toNatClampNeg = up := by rw [eup, nI_clamp (by omega)]
      refine G_iload_n (i := 3) C 27 dX11_kinds_26 rfl rfl rfl ?_
      refine G_iconst (v := 0) C 28 dX11_kinds_27 rfl rfl ?_
      refine G_iconst (v := 1) C 29 dX11_kinds_28 rfl rfl ?_
      refine G_calli 32 (G_runS C Kc_X11_in KS_X11_78 (by omega) (c_X11_in 0 q 0 1 s) rfl rfl (Nat.le_of_ble_eq_true rfl) rfl dX11_kinds_29) rfl (fun x29 s29 h29 => ?_)
      obtain ⟨es29, h29⟩ := h29
      have es29 := es29.symm
      subst es29
      refine G_if_ne C 38 35 dX11_kinds_32 rfl rfl (fun c32 => ?_) (fun c32 => ?_)
      ·
        have k32 := g_neT h29 c32
        obtain ⟨uq, huq, euq⟩ := x_inR (b := 1) k32 rfl (by decide)
        have zuq : uq = 0 ∨ uq = 1 := by omega
        rcases zuq with rfl | rfl
        ·
          obtain rfl : q = 0 := euq
          refine G_aload_n (i := 0) C 39 dX11_kinds_38 rfl rfl rfl ?_
          refine X11_7g C 42 dX11_kinds_39 rfl ?_
          refine G_iload_n (i := 2) C 43 dX11_kinds_42 rfl rfl rfl ?_
          refine G_iald (n := 6) C 44 (by decide) (eMk (by decide) _ _ _) (up) eup (by omega) (by decide) dX11_kinds_43 rfl (fun x43 ex43 => ?_)
          have Sx43 : x43 = P 6 up := ex43.trans (mI_6 i (by omega))
          obtain ⟨kdx43, hkdx43, ekdx43⟩ := (mI_p i (p := up) (by omega)).1
          refine G_istore (L' := [some (.ref (e_ad E 0)), some (.int t), some (.int p), some (.int 0), some (.int x2), some (.int x43), none, none, none]) C 46 dX11_kinds_44 rfl (Nat.le_of_ble_eq_true rfl) rfl rfl ?_
          refine G_aload_n (i := 0) C 47 dX11_kinds_46 rfl rfl rfl ?_
          refine X11_13g C 50 dX11_kinds_47 rfl ?_
          refine G_iload_n (i := 2) C 51 dX11_kinds_50 rfl rfl rfl ?_
          refine G_iald (n := 6) C 52 (by decide) (eMk (by decide) _ _ _) (up) eup (by omega) (by decide) dX11_kinds_51 rfl (fun x51 ex51 => ?_)
          have Sx51 : x51 = P 7 up := ex51.trans (mI_7 i (by omega))
          refine G_istore (L' := [some (.ref (e_ad E 0)), some (.int t), some (.int p), some (.int 0), some (.int x2), some (.int x43), some (.int x51), none, none]) C 54 dX11_kinds_52 rfl (Nat.le_of_ble_eq_true rfl) rfl rfl ?_
          refine G_iconst (v := 0) C 55 dX11_kinds_54 rfl rfl ?_
          refine G_istore (L' := [some (.ref (e_ad E 0)), some (.int t), some (.int p), some (.int 0), some (.int x2), some (.int x43), some (.int x51), some (.int 0), none]) C 57 dX11_kinds_55 rfl (Nat.le_of_ble_eq_true rfl) rfl rfl ?_
          refine G_iconst (v := 0) C 58 dX11_kinds_57 rfl rfl ?_
          refine G_istore (L' := [some (.ref (e_ad E 0)), some (.int t), some (.int p), some (.int 0), some (.int x2), some (.int x43), some (.int x51), some (.int 0), some (.int 0)]) C 60 dX11_kinds_58 rfl (Nat.le_of_ble_eq_true rfl) rfl rfl ?_
          have L60 : ∀ (f60 : Nat) (k : Nat) (w : Int32) (fi y : Int32) (sl60 : gS) (Ey : y = nI k) (hk : k ≤ 6) (hfi : fi = x_fit TX B ut (fun v => g_up P 6 up (nI v)) k) (fnl60 : Qn s sl60) (il60 : mI TX nT n l (g_up P 6 up (w)) sl60), 6 < k + f60 → GW SM E (gFin SM E (gQi SM (fun r s' => RM TX P B s' ∧ r = s_kinds TX P B t p 0))) 60 [some (.ref (e_ad E 0)), some (.int t), some (.int p), some (.int 0), some (.int x2), some (.int x43), some (.int x51), some (.int fi), some (.int y)] [] sl60 := by
            intro f60
            induction f60 with
            | zero =>
              intro k w fi y sl60 Ey hk hfi fnl60 il60 hf60
              exact absurd hf60 (by omega)
            | succ f60 ih60 =>
              intro k w fi y sl60 Ey hk hfi fnl60 il60 hf60
              refine G_iload C 62 dX11_kinds_60 rfl rfl ?_
              refine G_iload_n (i := 3) C 63 dX11_kinds_62 rfl rfl rfl ?_
              refine G_if_ne C 71 66 dX11_kinds_63 rfl rfl (fun c => absurd c (by decide)) (fun _ => ?_)
              refine G_bipush (v := 6) C 68 dX11_kinds_66 rfl rfl ?_
              refine G_goto C 73 dX11_kinds_68 rfl ?_
              refine G_icmp_ge C 139 76 dX11_kinds_73 rfl rfl (fun c73 => ?_) (fun c73 => ?_)
              ·
                have n73 : ¬ k < 6 := fun h => c73 ((g_ltN (a := k) (b := 6) (hx := Ey) (hy := rfl) (by omega) (by omega)).mpr h)
                refine G_aload_n (i := 0) C 140 dX11_kinds_139 rfl rfl rfl ?_
                refine X11_7g C 143 dX11_kinds_140 rfl ?_
                refine G_iload_n (i := 2) C 144 dX11_kinds_143 rfl rfl rfl ?_
                refine G_iload C 146 dX11_kinds_144 rfl rfl ?_
                refine G_iast (n := 6) C 147 (by decide) (fun σ => eMk (by decide) _ _ σ) (up) eup (by omega) (by decide) (Nat.le_refl _) dX11_kinds_146 rfl (fun s146 es146 => ?_)
                have fn_1 : Qn s s146 := Qn.tr fnl60 ((Qm.up es146 (by unfold mR; omega)).n)
                have i_1 : mI TX nT n l P s146 := by have z := mI_up6 il60 es146 hup ⟨kdx43, hkdx43, Sx43.trans ekdx43⟩; rw [g_up2, Sx43, g_up_id] at z; exact z
                refine G_aload_n (i := 0) C 148 dX11_kinds_147 rfl rfl rfl ?_
                refine X11_13g C 151 dX11_kinds_148 rfl ?_
                refine G_iload_n (i := 2) C 152 dX11_kinds_151 rfl rfl rfl ?_
                refine G_iload C 154 dX11_kinds_152 rfl rfl ?_
                refine G_iast (n := 6) C 155 (by decide) (fun σ => eMk (by decide) _ _ σ) (up) eup (by omega) (by decide) (Nat.le_refl _) dX11_kinds_154 rfl (fun s154 es154 => ?_)
                have fn_2 : Qn s s154 := Qn.tr fn_1 ((Qm.up es154 (by unfold mR; omega)).n)
                have i_2 : mI TX nT n l P s154 := by have z := mI_up7 i_1 es154 hup; rw [Sx51, g_up_id] at z; exact z
                refine G_iload C 157 dX11_kinds_155 rfl rfl ?_
                exact G_iret C dX11_kinds_157 (⟨RM_i hR i_2 fn_2, by unfold s_kinds; rw [if_pos k9, hxn, if_neg k20, if_neg k32, if_pos rfl, cut, cup, hfi, show k = 6 by omega]⟩)
              ·
                have n73 : k < 6 := (g_ltN (a := k) (b := 6) (hx := Ey) (hy := rfl) (by omega) (by omega)).mp c73
                refine G_aload_n (i := 0) C 77 dX11_kinds_76 rfl rfl rfl ?_
                refine X11_7g C 80 dX11_kinds_77 rfl ?_
                refine G_iload_n (i := 2) C 81 dX11_kinds_80 rfl rfl rfl ?_
                refine G_iload_n (i := 3) C 82 dX11_kinds_81 rfl rfl rfl ?_
                refine G_if_ne C 90 85 dX11_kinds_82 rfl rfl (fun c => absurd c (by decide)) (fun _ => ?_)
                refine G_iload C 87 dX11_kinds_85 rfl rfl ?_
                refine G_goto C 92 dX11_kinds_87 rfl ?_
                refine G_iast (n := 6) C 93 (by decide) (fun σ => eMk (by decide) _ _ σ) (up) eup (by omega) (by decide) (Nat.le_refl _) dX11_kinds_92 rfl (fun s92 es92 => ?_)
                have fn_1 : Qn s s92 := Qn.tr fnl60 ((Qm.up es92 (by unfold mR; omega)).n)
                have i_1 : mI TX nT n l (g_up P 6 up (nI k)) s92 := by have z := mI_up6 il60 es92 hup ⟨k, by omega, Ey⟩; rw [g_up2, Ey] at z; exact z
                refine G_aload_n (i := 0) C 94 dX11_kinds_93 rfl rfl rfl ?_
                refine X11_13g C 97 dX11_kinds_94 rfl ?_
                refine G_iload_n (i := 2) C 98 dX11_kinds_97 rfl rfl rfl ?_
                refine G_iload_n (i := 3) C 99 dX11_kinds_98 rfl rfl rfl ?_
                refine G_iconst (v := 1) C 100 dX11_kinds_99 rfl rfl ?_
                refine G_icmp_ne C 108 103 dX11_kinds_100 rfl rfl (fun _ => ?_) (fun c => absurd c (by decide))
                refine G_iload C 110 dX11_kinds_108 rfl rfl ?_
                refine G_iast (n := 6) C 111 (by decide) (fun σ => eMk (by decide) _ _ σ) (up) eup (by omega) (by decide) (Nat.le_refl _) dX11_kinds_110 rfl (fun s110 es110 => ?_)
                have fn_2 : Qn s s110 := Qn.tr fn_1 ((Qm.up es110 (by unfold mR; omega)).n)
                have i_2 : mI TX nT n l (g_up P 6 up (nI k)) s110 := by have z := mI_up7 i_1 es110 hup; rw [show x51 = (g_up P 6 up (nI k)) 7 up from Sx51, g_up_id] at z; exact z
                refine G_iload C 113 dX11_kinds_111 rfl rfl ?_
                refine G_aload_n (i := 0) C 114 dX11_kinds_113 rfl rfl rfl ?_
                refine G_iload_n (i := 1) C 115 dX11_kinds_114 rfl rfl rfl ?_
                refine G_calli 118 (G_runV C Kc_X11_unlike KV_X11_248 (by omega) (by decide) (eM _ _ _) rfl (c_X11_unlike 0 TX nT n l (g_up P 6 up (nI k)) s110 i_2 t ut eut hut z hz20 (B (4 + ut)) ((congrFun (fn_2.c (by omega) (by omega)) ut).trans ((mB_sz hR.2.1 hut).trans ez)) (fun j hj => (congrFun (fn_2.c (by omega) (by omega)) _).trans (mB_nu hR.2.1 hut hj))) rfl rfl rfl (Nat.le_of_ble_eq_true rfl) rfl dX11_kinds_115) rfl (fun x115 s115 h115 => ?_)
                have fn_3 : Qn s s115 := Qn.tr fn_2 (h115.1.KR)
                have i_3 : mI TX nT n l (g_up P 6 up (nI k)) s115 := h115.2.1
                have hun : x115 = x_un TX B ut (g_up P 6 up (nI k)) := by unfold x_un; rw [ez, nI_clamp (by omega)]; exact h115.2.2
                refine G_iconst (v := (-1)) C 119 dX11_kinds_118 rfl rfl ?_
                refine G_icmp_ne C 129 122 dX11_kinds_119 rfl rfl (fun c119 => ?_) (fun c119 => ?_)
                ·
                  refine G_iconst (v := 0) C 130 dX11_kinds_129 rfl rfl ?_
                  refine G_ior C 131 dX11_kinds_130 rfl (fun x130 ex130 => ?_)
                  refine G_istore (L' := [some (.ref (e_ad E 0)), some (.int t), some (.int p), some (.int 0), some (.int x2), some (.int x43), some (.int x51), some (.int x130), some (.int y)]) C 133 dX11_kinds_131 rfl (Nat.le_of_ble_eq_true rfl) rfl rfl ?_
                  refine G_iinc (w := 1) C 136 dX11_kinds_133 rfl rfl rfl rfl (fun x133 ex133 => ?_)
                  have Nx133 : x133 = nI (k + 1) := g_addN ex133 Ey rfl
                  show GW SM E _ 136 [some (.ref (e_ad E 0)), some (.int t), some (.int p), some (.int 0), some (.int x2), some (.int x43), some (.int x51), some (.int x130), some (.int x133)] [] s115
                  refine G_goto C 60 dX11_kinds_136 rfl ?_
                  exact ih60 (k + 1) (nI k) x130 x133 s115 (g_cn (a := (k + 1)) Nx133 (by first | rfl | omega | (simp only [List.length_cons, List.length_drop]; done) | (simp only [List.length_cons, List.length_drop]; omega))) (by omega) (by rw [x_fit, if_neg (by rw [← hun]; exact c119), ex130, y_or0, hfi]) fn_3 (i_3) (by omega)
                ·
                  refine G_iconst (v := 1) C 123 dX11_kinds_122 rfl rfl ?_
                  refine G_iload C 125 dX11_kinds_123 rfl rfl ?_
                  refine G_ishl C 126 dX11_kinds_125 rfl (fun x125 ex125 => ?_)
                  refine G_goto C 130 dX11_kinds_126 rfl ?_
                  refine G_ior C 131 dX11_kinds_130 rfl (fun x130 ex130 => ?_)
                  refine G_istore (L' := [some (.ref (e_ad E 0)), some (.int t), some (.int p), some (.int 0), some (.int x2), some (.int x43), some (.int x51), some (.int x130), some (.int y)]) C 133 dX11_kinds_131 rfl (Nat.le_of_ble_eq_true rfl) rfl rfl ?_
                  refine G_iinc (w := 1) C 136 dX11_kinds_133 rfl rfl rfl rfl (fun x133 ex133 => ?_)
                  have Nx133 : x133 = nI (k + 1) := g_addN ex133 Ey rfl
                  show GW SM E _ 136 [some (.ref (e_ad E 0)), some (.int t), some (.int p), some (.int 0), some (.int x2), some (.int x43), some (.int x51), some (.int x130), some (.int x133)] [] s115
                  refine G_goto C 60 dX11_kinds_136 rfl ?_
                  exact ih60 (k + 1) (nI k) x130 x133 s115 (g_cn (a := (k + 1)) Nx133 (by first | rfl | omega | (simp only [List.length_cons, List.length_drop]; done) | (simp only [List.length_cons, List.length_drop]; omega))) (by omega) (by rw [x_fit, if_pos (hun.symm.trans c119), ex130, ex125, Ey, hfi]) fn_3 (i_3) (by omega)
          exact L60 (6 + 1) 0 (P 6 up) 0 0 s (g_cn (a := 0) rfl (by first | rfl | omega)) (by omega) (rfl) fn (by rw [g_up_id]; exact i) (by omega)
        ·
          obtain rfl : q = 1 := euq
          refine G_aload_n (i := 0) C 39 dX11_kinds_38 rfl rfl rfl ?_
          refine X11_7g C 42 dX11_kinds_39 rfl ?_
          refine G_iload_n (i := 2) C 43 dX11_kinds_42 rfl rfl rfl ?_
          refine G_iald (n := 6) C 44 (by decide) (eMk (by decide) _ _ _) (up) eup (by omega) (by decide) dX11_kinds_43 rfl (fun x43 ex43 => ?_)
          have Sx43 : x43 = P 6 up := ex43.trans (mI_6 i (by omega))
          obtain ⟨kdx43, hkdx43, ekdx43⟩ := (mI_p i (p := up) (by omega)).1
          refine G_istore (L' := [some (.ref (e_ad E 0)), some (.int t), some (.int p), some (.int 1), some (.int x2), some (.int x43), none, none, none]) C 46 dX11_kinds_44 rfl (Nat.le_of_ble_eq_true rfl) rfl rfl ?_
          refine G_aload_n (i := 0) C 47 dX11_kinds_46 rfl rfl rfl ?_
          refine X11_13g C 50 dX11_kinds_47 rfl ?_
          refine G_iload_n (i := 2) C 51 dX11_kinds_50 rfl rfl rfl ?_
          refine G_iald (n := 6) C 52 (by decide) (eMk (by decide) _ _ _) (up) eup (by omega) (by decide) dX11_kinds_51 rfl (fun x51 ex51 => ?_)
          have Sx51 : x51 = P 7 up := ex51.trans (mI_7 i (by omega))
          refine G_istore (L' := [some (.ref (e_ad E 0)), some (.int t), some (.int p), some (.int 1), some (.int x2), some (.int x43), some (.int x51), none, none]) C 54 dX11_kinds_52 rfl (Nat.le_of_ble_eq_true rfl) rfl rfl ?_
          refine G_iconst (v := 0) C 55 dX11_kinds_54 rfl rfl ?_
          refine G_istore (L' := [some (.ref (e_ad E 0)), some (.int t), some (.int p), some (.int 1), some (.int x2), some (.int x43), some (.int x51), some (.int 0), none]) C 57 dX11_kinds_55 rfl (Nat.le_of_ble_eq_true rfl) rfl rfl ?_
          refine G_iconst (v := 0) C 58 dX11_kinds_57 rfl rfl ?_
          refine G_istore (L' := [some (.ref (e_ad E 0)), some (.int t), some (.int p), some (.int 1), some (.int x2), some (.int x43), some (.int x51), some (.int 0), some (.int 0)]) C 60 dX11_kinds_58 rfl (Nat.le_of_ble_eq_true rfl) rfl rfl ?_
          have L60 : ∀ (f60 : Nat) (k : Nat) (w : Int32) (fi y : Int32) (sl60 : gS) (Ey : y = nI k) (hk : k ≤ 10) (hfi : fi = x_fit TX B ut (fun v => g_up P 7 up (nI v)) k) (fnl60 : Qn s sl60) (il60 : mI TX nT n l (g_up P 7 up (w)) sl60), 10 < k + f60 → GW SM E (gFin SM E (gQi SM (fun r s' => RM TX P B s' ∧ r = s_kinds TX P B t p 1))) 60 [some (.ref (e_ad E 0)), some (.int t), some (.int p), some (.int 1), some (.int x2), some (.int x43), some (.int x51), some (.int fi), some (.int y)] [] sl60 := by
            intro f60
            induction f60 with
            | zero =>
              intro k w fi y sl60 Ey hk hfi fnl60 il60 hf60
              exact absurd hf60 (by omega)
            | succ f60 ih60 =>
              intro k w fi y sl60 Ey hk hfi fnl60 il60 hf60
              refine G_iload C 62 dX11_kinds_60 rfl rfl ?_
              refine G_iload_n (i := 3) C 63 dX11_kinds_62 rfl rfl rfl ?_
              refine G_if_ne C 71 66 dX11_kinds_63 rfl rfl (fun _ => ?_) (fun c => absurd c (by decide))
              refine G_bipush (v := 10) C 73 dX11_kinds_71 rfl rfl ?_
              refine G_icmp_ge C 139 76 dX11_kinds_73 rfl rfl (fun c73 => ?_) (fun c73 => ?_)
              ·
                have n73 : ¬ k < 10 := fun h => c73 ((g_ltN (a := k) (b := 10) (hx := Ey) (hy := rfl) (by omega) (by omega)).mpr h)
                refine G_aload_n (i := 0) C 140 dX11_kinds_139 rfl rfl rfl ?_
                refine X11_7g C 143 dX11_kinds_140 rfl ?_
                refine G_iload_n (i := 2) C 144 dX11_kinds_143 rfl rfl rfl ?_
                refine G_iload C 146 dX11_kinds_144 rfl rfl ?_
                refine G_iast (n := 6) C 147 (by decide) (fun σ => eMk (by decide) _ _ σ) (up) eup (by omega) (by decide) (Nat.le_refl _) dX11_kinds_146 rfl (fun s146 es146 => ?_)
                have fn_1 : Qn s s146 := Qn.tr fnl60 ((Qm.up es146 (by unfold mR; omega)).n)
                have i_1 : mI TX nT n l (g_up P 7 up w) s146 := by have z := mI_up6 il60 es146 hup ⟨kdx43, hkdx43, Sx43.trans ekdx43⟩; rw [show x43 = (g_up P 7 up w) 6 up from Sx43, g_up_id] at z; exact z
                refine G_aload_n (i := 0) C 148 dX11_kinds_147 rfl rfl rfl ?_
                refine X11_13g C 151 dX11_kinds_148 rfl ?_
                refine G_iload_n (i := 2) C 152 dX11_kinds_151 rfl rfl rfl ?_
                refine G_iload C 154 dX11_kinds_152 rfl rfl ?_
                refine G_iast (n := 6) C 155 (by decide) (fun σ => eMk (by decide) _ _ σ) (up) eup (by omega) (by decide) (Nat.le_refl _) dX11_kinds_154 rfl (fun s154 es154 => ?_)
                have fn_2 : Qn s s154 := Qn.tr fn_1 ((Qm.up es154 (by unfold mR; omega)).n)
                have i_2 : mI TX nT n l P s154 := by have z := mI_up7 i_1 es154 hup; rw [g_up2, Sx51, g_up_id] at z; exact z
                refine G_iload C 157 dX11_kinds_155 rfl rfl ?_
                exact G_iret C dX11_kinds_157 (⟨RM_i hR i_2 fn_2, by unfold s_kinds; rw [if_pos k9, hxn, if_neg k20, if_neg k32, if_neg (by decide), cut, cup, hfi, show k = 10 by omega]⟩)
              ·
                have n73 : k < 10 := (g_ltN (a := k) (b := 10) (hx := Ey) (hy := rfl) (by omega) (by omega)).mp c73
                refine G_aload_n (i := 0) C 77 dX11_kinds_76 rfl rfl rfl ?_
                refine X11_7g C 80 dX11_kinds_77 rfl ?_
                refine G_iload_n (i := 2) C 81 dX11_kinds_80 rfl rfl rfl ?_
                refine G_iload_n (i := 3) C 82 dX11_kinds_81 rfl rfl rfl ?_
                refine G_if_ne C 90 85 dX11_kinds_82 rfl rfl (fun _ => ?_) (fun c => absurd c (by decide))
                refine G_iload C 92 dX11_kinds_90 rfl rfl ?_
                refine G_iast (n := 6) C 93 (by decide) (fun σ => eMk (by decide) _ _ σ) (up) eup (by omega) (by decide) (Nat.le_refl _) dX11_kinds_92 rfl (fun s92 es92 => ?_)
                have fn_1 : Qn s s92 := Qn.tr fnl60 ((Qm.up es92 (by unfold mR; omega)).n)
                have i_1 : mI TX nT n l (g_up P 7 up w) s92 := by have z := mI_up6 il60 es92 hup ⟨kdx43, hkdx43, Sx43.trans ekdx43⟩; rw [show x43 = (g_up P 7 up w) 6 up from Sx43, g_up_id] at z; exact z
                refine G_aload_n (i := 0) C 94 dX11_kinds_93 rfl rfl rfl ?_
                refine X11_13g C 97 dX11_kinds_94 rfl ?_
                refine G_iload_n (i := 2) C 98 dX11_kinds_97 rfl rfl rfl ?_
                refine G_iload_n (i := 3) C 99 dX11_kinds_98 rfl rfl rfl ?_
                refine G_iconst (v := 1) C 100 dX11_kinds_99 rfl rfl ?_
                refine G_icmp_ne C 108 103 dX11_kinds_100 rfl rfl (fun c => absurd c (by decide)) (fun _ => ?_)
                refine G_iload C 105 dX11_kinds_103 rfl rfl ?_
                refine G_goto C 110 dX11_kinds_105 rfl ?_
                refine G_iast (n := 6) C 111 (by decide) (fun σ => eMk (by decide) _ _ σ) (up) eup (by omega) (by decide) (Nat.le_refl _) dX11_kinds_110 rfl (fun s110 es110 => ?_)
                have fn_2 : Qn s s110 := Qn.tr fn_1 ((Qm.up es110 (by unfold mR; omega)).n)
                have i_2 : mI TX nT n l (g_up P 7 up (nI k)) s110 := by have z := mI_up7 i_1 es110 hup; rw [g_up2, Ey] at z; exact z
                refine G_iload C 113 dX11_kinds_111 rfl rfl ?_
                refine G_aload_n (i := 0) C 114 dX11_kinds_113 rfl rfl rfl ?_
                refine G_iload_n (i := 1) C 115 dX11_kinds_114 rfl rfl rfl ?_
                refine G_calli 118 (G_runV C Kc_X11_unlike KV_X11_248 (by omega) (by decide) (eM _ _ _) rfl (c_X11_unlike 0 TX nT n l (g_up P 7 up (nI k)) s110 i_2 t ut eut hut z hz20 (B (4 + ut)) ((congrFun (fn_2.c (by omega) (by omega)) ut).trans ((mB_sz hR.2.1 hut).trans ez)) (fun j hj => (congrFun (fn_2.c (by omega) (by omega)) _).trans (mB_nu hR.2.1 hut hj))) rfl rfl rfl (Nat.le_of_ble_eq_true rfl) rfl dX11_kinds_115) rfl (fun x115 s115 h115 => ?_)
                have fn_3 : Qn s s115 := Qn.tr fn_2 (h115.1.KR)
                have i_3 : mI TX nT n l (g_up P 7 up (nI k)) s115 := h115.2.1
                have hun : x115 = x_un TX B ut (g_up P 7 up (nI k)) := by unfold x_un; rw [ez, nI_clamp (by omega)]; exact h115.2.2
                refine G_iconst (v := (-1)) C 119 dX11_kinds_118 rfl rfl ?_
                refine G_icmp_ne C 129 122 dX11_kinds_119 rfl rfl (fun c119 => ?_) (fun c119 => ?_)
                ·
                  refine G_iconst (v := 0) C 130 dX11_kinds_129 rfl rfl ?_
                  refine G_ior C 131 dX11_kinds_130 rfl (fun x130 ex130 => ?_)
                  refine G_istore (L' := [some (.ref (e_ad E 0)), some (.int t), some (.int p), some (.int 1), some (.int x2), some (.int x43), some (.int x51), some (.int x130), some (.int y)]) C 133 dX11_kinds_131 rfl (Nat.le_of_ble_eq_true rfl) rfl rfl ?_
                  refine G_iinc (w := 1) C 136 dX11_kinds_133 rfl rfl rfl rfl (fun x133 ex133 => ?_)
                  have Nx133 : x133 = nI (k + 1) := g_addN ex133 Ey rfl
                  show GW SM E _ 136 [some (.ref (e_ad E 0)), some (.int t), some (.int p), some (.int 1), some (.int x2), some (.int x43), some (.int x51), some (.int x130), some (.int x133)] [] s115
                  refine G_goto C 60 dX11_kinds_136 rfl ?_
                  exact ih60 (k + 1) (nI k) x130 x133 s115 (g_cn (a := (k + 1)) Nx133 (by first | rfl | omega | (simp only [List.length_cons, List.length_drop]; done) | (simp only [List.length_cons, List.length_drop]; omega))) (by omega) (by rw [x_fit, if_neg (by rw [← hun]; exact c119), ex130, y_or0, hfi]) fn_3 (i_3) (by omega)
                ·
                  refine G_iconst (v := 1) C 123 dX11_kinds_122 rfl rfl ?_
                  refine G_iload C 125 dX11_kinds_123 rfl rfl ?_
                  refine G_ishl C 126 dX11_kinds_125 rfl (fun x125 ex125 => ?_)
                  refine G_goto C 130 dX11_kinds_126 rfl ?_
                  refine G_ior C 131 dX11_kinds_130 rfl (fun x130 ex130 => ?_)
                  refine G_istore (L' := [some (.ref (e_ad E 0)), some (.int t), some (.int p), some (.int 1), some (.int x2), some (.int x43), some (.int x51), some (.int x130), some (.int y)]) C 133 dX11_kinds_131 rfl (Nat.le_of_ble_eq_true rfl) rfl rfl ?_
                  refine G_iinc (w := 1) C 136 dX11_kinds_133 rfl rfl rfl rfl (fun x133 ex133 => ?_)
                  have Nx133 : x133 = nI (k + 1) := g_addN ex133 Ey rfl
                  show GW SM E _ 136 [some (.ref (e_ad E 0)), some (.int t), some (.int p), some (.int 1), some (.int x2), some (.int x43), some (.int x51), some (.int x130), some (.int x133)] [] s115
                  refine G_goto C 60 dX11_kinds_136 rfl ?_
                  exact ih60 (k + 1) (nI k) x130 x133 s115 (g_cn (a := (k + 1)) Nx133 (by first | rfl | omega | (simp only [List.length_cons, List.length_drop]; done) | (simp only [List.length_cons, List.length_drop]; omega))) (by omega) (by rw [x_fit, if_pos (hun.symm.trans c119), ex130, ex125, Ey, hfi]) fn_3 (i_3) (by omega)
          exact L60 (10 + 1) 0 (P 7 up) 0 0 s (g_cn (a := 0) rfl (by first | rfl | omega)) (by omega) (rfl) fn (by rw [g_up_id]; exact i) (by omega)
      ·
        have k32 := h29.symm.trans c32
        refine G_bipush (v := (-7)) C 37 dX11_kinds_35 rfl rfl ?_
        exact G_iret C dX11_kinds_37 (⟨⟨nT, n, l, hR⟩, by unfold s_kinds; rw [if_pos k9, hxn, if_neg k20, if_pos k32]⟩)
    ·
      have k20 := h17.symm.trans c20
      refine G_bipush (v := (-5)) C 25 dX11_kinds_23 rfl rfl ?_
      exact G_iret C dX11_kinds_25 (⟨⟨nT, n, l, hR⟩, by unfold s_kinds; rw [if_pos k9, hxn, if_pos k20]⟩)
  ·
    have k9 := g_neT h2 c9
    refine G_iload C 14 dX11_kinds_12 rfl rfl ?_
    exact G_iret C dX11_kinds_14 (⟨⟨nT, n, l, hR⟩, by unfold s_kinds; rw [if_neg k9]; exact h2⟩)
theorem dX11_corners_0 : decode cX11_corners 0 = .ok (.aload_n 0, 1) := by decide +kernel
theorem dX11_corners_1 : decode cX11_corners 1 = .ok (.iload_n 1, 1) := by decide +kernel
theorem dX11_corners_2 : decode cX11_corners 2 = .ok (.invokevirtual 245, 3) := by decide +kernel
theorem dX11_corners_5 : decode cX11_corners 5 = .ok (.istore_n 3, 1) := by decide +kernel
theorem dX11_corners_6 : decode cX11_corners 6 = .ok (.iload_n 3, 1) := by decide +kernel
theorem dX11_corners_7 : decode cX11_corners 7 = .ok (.ifCond .eq 5, 3) := by decide +kernel
theorem dX11_corners_10 : decode cX11_corners 10 = .ok (.iload_n 3, 1) := by decide +kernel
theorem dX11_corners_11 : decode cX11_corners 11 = .ok (.ireturn, 1) := by decide +kernel
theorem dX11_corners_12 : decode cX11_corners 12 = .ok (.iload_n 2, 1) := by decide +kernel
theorem dX11_corners_13 : decode cX11_corners 13 = .ok (.iconst (-1), 1) := by decide +kernel
theorem dX11_corners_14 : decode cX11_corners 14 = .ok (.if_icmp .eq 14, 3) := by decide +kernel
theorem dX11_corners_17 : decode cX11_corners 17 = .ok (.aload_n 0, 1) := by decide +kernel
theorem dX11_corners_18 : decode cX11_corners 18 = .ok (.iload_n 2, 1) := by decide +kernel
theorem dX11_corners_19 : decode cX11_corners 19 = .ok (.invokevirtual 164, 3) := by decide +kernel
theorem dX11_corners_22 : decode cX11_corners 22 = .ok (.ifCond .ne 6, 3) := by decide +kernel
theorem dX11_corners_25 : decode cX11_corners 25 = .ok (.bipush (-5), 2) := by decide +kernel
theorem dX11_corners_27 : decode cX11_corners 27 = .ok (.ireturn, 1) := by decide +kernel
theorem dX11_corners_28 : decode cX11_corners 28 = .ok (.iconst 0, 1) := by decide +kernel
theorem dX11_corners_29 : decode cX11_corners 29 = .ok (.istore 4, 2) := by decide +kernel
theorem dX11_corners_31 : decode cX11_corners 31 = .ok (.iload_n 2, 1) := by decide +kernel
theorem dX11_corners_32 : decode cX11_corners 32 = .ok (.iconst (-1), 1) := by decide +kernel
theorem dX11_corners_33 : decode cX11_corners 33 = .ok (.if_icmp .ne 68, 3) := by decide +kernel
theorem dX11_corners_36 : decode cX11_corners 36 = .ok (.aload_n 0, 1) := by decide +kernel
theorem dX11_corners_37 : decode cX11_corners 37 = .ok (.getfield 19, 3) := by decide +kernel
theorem dX11_corners_40 : decode cX11_corners 40 = .ok (.iconst 1, 1) := by decide +kernel
theorem dX11_corners_41 : decode cX11_corners 41 = .ok (.iaload, 1) := by decide +kernel
theorem dX11_corners_42 : decode cX11_corners 42 = .ok (.istore 5, 2) := by decide +kernel
theorem dX11_corners_44 : decode cX11_corners 44 = .ok (.iconst 0, 1) := by decide +kernel
theorem dX11_corners_45 : decode cX11_corners 45 = .ok (.istore 6, 2) := by decide +kernel
theorem dX11_corners_47 : decode cX11_corners 47 = .ok (.iload 6, 2) := by decide +kernel
theorem dX11_corners_49 : decode cX11_corners 49 = .ok (.bipush 9, 2) := by decide +kernel
theorem dX11_corners_51 : decode cX11_corners 51 = .ok (.if_icmp .ge 39, 3) := by decide +kernel
theorem dX11_corners_54 : decode cX11_corners 54 = .ok (.aload_n 0, 1) := by decide +kernel
theorem dX11_corners_55 : decode cX11_corners 55 = .ok (.getfield 19, 3) := by decide +kernel
theorem dX11_corners_58 : decode cX11_corners 58 = .ok (.iconst 1, 1) := by decide +kernel
theorem dX11_corners_59 : decode cX11_corners 59 = .ok (.iload 6, 2) := by decide +kernel
theorem dX11_corners_61 : decode cX11_corners 61 = .ok (.iastore, 1) := by decide +kernel
theorem dX11_corners_62 : decode cX11_corners 62 = .ok (.iload 4, 2) := by decide +kernel
theorem dX11_corners_64 : decode cX11_corners 64 = .ok (.aload_n 0, 1) := by decide +kernel
theorem dX11_corners_65 : decode cX11_corners 65 = .ok (.iload_n 1, 1) := by decide +kernel
theorem dX11_corners_66 : decode cX11_corners 66 = .ok (.invokevirtual 248, 3) := by decide +kernel
theorem dX11_corners_69 : decode cX11_corners 69 = .ok (.iconst (-1), 1) := by decide +kernel
theorem dX11_corners_70 : decode cX11_corners 70 = .ok (.if_icmp .ne 10, 3) := by decide +kernel
theorem dX11_corners_73 : decode cX11_corners 73 = .ok (.iconst 1, 1) := by decide +kernel
theorem dX11_corners_74 : decode cX11_corners 74 = .ok (.iload 6, 2) := by decide +kernel
theorem dX11_corners_76 : decode cX11_corners 76 = .ok (.ishl, 1) := by decide +kernel
theorem dX11_corners_77 : decode cX11_corners 77 = .ok (.goto 4, 3) := by decide +kernel
theorem dX11_corners_80 : decode cX11_corners 80 = .ok (.iconst 0, 1) := by decide +kernel
theorem dX11_corners_81 : decode cX11_corners 81 = .ok (.ior, 1) := by decide +kernel
theorem dX11_corners_82 : decode cX11_corners 82 = .ok (.istore 4, 2) := by decide +kernel
theorem dX11_corners_84 : decode cX11_corners 84 = .ok (.iinc 6 1, 3) := by decide +kernel
theorem dX11_corners_87 : decode cX11_corners 87 = .ok (.goto (-40), 3) := by decide +kernel
theorem dX11_corners_90 : decode cX11_corners 90 = .ok (.aload_n 0, 1) := by decide +kernel
theorem dX11_corners_91 : decode cX11_corners 91 = .ok (.getfield 19, 3) := by decide +kernel
theorem dX11_corners_94 : decode cX11_corners 94 = .ok (.iconst 1, 1) := by decide +kernel
theorem dX11_corners_95 : decode cX11_corners 95 = .ok (.iload 5, 2) := by decide +kernel
theorem dX11_corners_97 : decode cX11_corners 97 = .ok (.iastore, 1) := by decide +kernel
theorem dX11_corners_98 : decode cX11_corners 98 = .ok (.goto 71, 3) := by decide +kernel
theorem dX11_corners_101 : decode cX11_corners 101 = .ok (.aload_n 0, 1) := by decide +kernel
theorem dX11_corners_102 : decode cX11_corners 102 = .ok (.getfield 16, 3) := by decide +kernel
theorem dX11_corners_105 : decode cX11_corners 105 = .ok (.iconst 4, 1) := by decide +kernel
theorem dX11_corners_106 : decode cX11_corners 106 = .ok (.iload_n 2, 1) := by decide +kernel
theorem dX11_corners_107 : decode cX11_corners 107 = .ok (.imul, 1) := by decide +kernel
theorem dX11_corners_108 : decode cX11_corners 108 = .ok (.iaload, 1) := by decide +kernel
theorem dX11_corners_109 : decode cX11_corners 109 = .ok (.istore 5, 2) := by decide +kernel
theorem dX11_corners_111 : decode cX11_corners 111 = .ok (.iconst 0, 1) := by decide +kernel
theorem dX11_corners_112 : decode cX11_corners 112 = .ok (.istore 6, 2) := by decide +kernel
theorem dX11_corners_114 : decode cX11_corners 114 = .ok (.iload 6, 2) := by decide +kernel
theorem dX11_corners_116 : decode cX11_corners 116 = .ok (.bipush 9, 2) := by decide +kernel
theorem dX11_corners_118 : decode cX11_corners 118 = .ok (.if_icmp .ge 41, 3) := by decide +kernel
theorem dX11_corners_121 : decode cX11_corners 121 = .ok (.aload_n 0, 1) := by decide +kernel
theorem dX11_corners_122 : decode cX11_corners 122 = .ok (.getfield 16, 3) := by decide +kernel
theorem dX11_corners_125 : decode cX11_corners 125 = .ok (.iconst 4, 1) := by decide +kernel
theorem dX11_corners_126 : decode cX11_corners 126 = .ok (.iload_n 2, 1) := by decide +kernel
theorem dX11_corners_127 : decode cX11_corners 127 = .ok (.imul, 1) := by decide +kernel
theorem dX11_corners_128 : decode cX11_corners 128 = .ok (.iload 6, 2) := by decide +kernel
theorem dX11_corners_130 : decode cX11_corners 130 = .ok (.iastore, 1) := by decide +kernel
theorem dX11_corners_131 : decode cX11_corners 131 = .ok (.iload 4, 2) := by decide +kernel
theorem dX11_corners_133 : decode cX11_corners 133 = .ok (.aload_n 0, 1) := by decide +kernel
theorem dX11_corners_134 : decode cX11_corners 134 = .ok (.iload_n 1, 1) := by decide +kernel
theorem dX11_corners_135 : decode cX11_corners 135 = .ok (.invokevirtual 248, 3) := by decide +kernel
theorem dX11_corners_138 : decode cX11_corners 138 = .ok (.iconst (-1), 1) := by decide +kernel
theorem dX11_corners_139 : decode cX11_corners 139 = .ok (.if_icmp .ne 10, 3) := by decide +kernel
theorem dX11_corners_142 : decode cX11_corners 142 = .ok (.iconst 1, 1) := by decide +kernel
theorem dX11_corners_143 : decode cX11_corners 143 = .ok (.iload 6, 2) := by decide +kernel
theorem dX11_corners_145 : decode cX11_corners 145 = .ok (.ishl, 1) := by decide +kernel
theorem dX11_corners_146 : decode cX11_corners 146 = .ok (.goto 4, 3) := by decide +kernel
theorem dX11_corners_149 : decode cX11_corners 149 = .ok (.iconst 0, 1) := by decide +kernel
theorem dX11_corners_150 : decode cX11_corners 150 = .ok (.ior, 1) := by decide +kernel
theorem dX11_corners_151 : decode cX11_corners 151 = .ok (.istore 4, 2) := by decide +kernel
theorem dX11_corners_153 : decode cX11_corners 153 = .ok (.iinc 6 1, 3) := by decide +kernel
theorem dX11_corners_156 : decode cX11_corners 156 = .ok (.goto (-42), 3) := by decide +kernel
theorem dX11_corners_159 : decode cX11_corners 159 = .ok (.aload_n 0, 1) := by decide +kernel
theorem dX11_corners_160 : decode cX11_corners 160 = .ok (.getfield 16, 3) := by decide +kernel
theorem dX11_corners_163 : decode cX11_corners 163 = .ok (.iconst 4, 1) := by decide +kernel
theorem dX11_corners_164 : decode cX11_corners 164 = .ok (.iload_n 2, 1) := by decide +kernel
theorem dX11_corners_165 : decode cX11_corners 165 = .ok (.imul, 1) := by decide +kernel
theorem dX11_corners_166 : decode cX11_corners 166 = .ok (.iload 5, 2) := by decide +kernel
theorem dX11_corners_168 : decode cX11_corners 168 = .ok (.iastore, 1) := by decide +kernel
theorem dX11_corners_169 : decode cX11_corners 169 = .ok (.iload 4, 2) := by decide +kernel
theorem dX11_corners_171 : decode cX11_corners 171 = .ok (.ireturn, 1) := by decide +kernel
set_option maxHeartbeats 4000000 in
set_option maxRecDepth 100000 in
theorem c_X11_corners (d : Nat) (TX : gTX) (P B s : gS) (hR0 : RM TX P B s) (t p : Int32) : gMt SM yX11_corners cX11_corners 7 (some .int) (d + 11) (fun ad => [.ref (ad 0), .int t, .int p]) s (gQi SM (fun r s' => RM TX P B s' ∧ r = s_corn TX P B t p)) := by
  obtain ⟨nT, n, l, hR⟩ := hR0
  have hI := hR.1
  have hn6 : n ≤ 6 := hI.2.1.2.1
  have hl6 : l < 6 := mI_l6 hI
  have hxn : x_n P = n := x_nOf hI.2.1.1 hn6
  have hbI := hR.2.2
  have hnT6 : nT ≤ 6 := hI.2.1.2.2.2.2.1
  obtain ⟨tn0, htn0, etn0⟩ := hbI.2.1
  refine gMt_of SM_ok (by decide +kernel) (fun ad => [some (.ref (ad 0)), some (.int t), some (.int p), none, none, none, none]) (fun _ => rfl) (fun _ => rfl) (fun _ => Nat.le_of_ble_eq_true rfl) (fun E C0 => ?_)
  have C : gCx SM E RX11 cX11_corners 7 (some .int) (d + 11) := C0
  have fn : Qn s s := Qn.rf
  have i : mI TX nT n l P s := hI
  refine G_aload_n (i := 0) C 1 dX11_corners_0 rfl rfl rfl ?_
  refine G_iload_n (i := 1) C 2 dX11_corners_1 rfl rfl rfl ?_
  refine G_calli 5 (G_runV C Kc_X11_sheetWrong KV_X11_245 (by omega) (by decide) (eM _ _ _) rfl (c_X11_sheetWrong 0 TX P B s ⟨nT, n, l, hR⟩ t) rfl rfl rfl (Nat.le_of_ble_eq_true rfl) rfl dX11_corners_2) rfl (fun x2 s2 h2 => ?_)
  obtain ⟨es2, h2⟩ := h2
  have es2 := es2.symm
  subst es2
  refine G_istore_n (i := 3) (L' := [some (.ref (e_ad E 0)), some (.int t), some (.int p), some (.int x2), none, none, none]) C 6 dX11_corners_5 rfl rfl (Nat.le_of_ble_eq_true rfl) rfl rfl ?_
  refine G_iload_n (i := 3) C 7 dX11_corners_6 rfl rfl rfl ?_
  refine G_if_eq C 12 10 dX11_corners_7 rfl rfl (fun c7 => ?_) (fun c7 => ?_)
  ·
    have k7 := h2.symm.trans c7
    obtain ⟨ut, hut, eut, cut, z, hz20, ez⟩ := s_refI hbI.2.2.2.2.1 k7
    refine G_iload_n (i := 2) C 13 dX11_corners_12 rfl rfl rfl ?_
    refine G_iconst (v := (-1)) C 14 dX11_corners_13 rfl rfl ?_
    refine G_icmp_eq C 28 17 dX11_corners_14 rfl rfl (fun c14 => ?_) (fun c14 => ?_)
    ·
      refine G_iconst (v := 0) C 29 dX11_corners_28 rfl rfl ?_
      refine G_istore (L' := [some (.ref (e_ad E 0)), some (.int t), some (.int p), some (.int x2), some (.int 0), none, none]) C 31 dX11_corners_29 rfl (Nat.le_of_ble_eq_true rfl) rfl rfl ?_
      refine G_iload_n (i := 2) C 32 dX11_corners_31 rfl rfl rfl ?_
      refine G_iconst (v := (-1)) C 33 dX11_corners_32 rfl rfl ?_
      refine G_icmp_ne C 101 36 dX11_corners_33 rfl rfl (fun c33 => ?_) (fun c33 => ?_)
      ·
        exact absurd c14 c33
      ·
        refine G_aload_n (i := 0) C 37 dX11_corners_36 rfl rfl rfl ?_
        refine X11_19g C 40 dX11_corners_37 rfl ?_
        refine G_iconst (v := 1) C 41 dX11_corners_40 rfl rfl ?_
        refine G_iald (n := 13) C 42 (by decide) (eMk (by decide) _ _ _) (1) rfl (by omega) (by decide) dX11_corners_41 rfl (fun x41 ex41 => ?_)
        have Sx41 : x41 = P 0 1 := ex41.trans (mI_v i 0 1)
        obtain ⟨mx41, hmx41, emx41⟩ := i.2.1.2.2.2.2.2.2.2.2
        refine G_istore (L' := [some (.ref (e_ad E 0)), some (.int t), some (.int p), some (.int x2), some (.int 0), some (.int x41), none]) C 44 dX11_corners_42 rfl (Nat.le_of_ble_eq_true rfl) rfl rfl ?_
        refine G_iconst (v := 0) C 45 dX11_corners_44 rfl rfl ?_
        refine G_istore (L' := [some (.ref (e_ad E 0)), some (.int t), some (.int p), some (.int x2), some (.int 0), some (.int x41), some (.int 0)]) C 47 dX11_corners_45 rfl (Nat.le_of_ble_eq_true rfl) rfl rfl ?_
        have L47 : ∀ (f47 : Nat) (k : Nat) (w : Int32) (fi y : Int32) (sl47 : gS) (Ey : y = nI k) (hk : k ≤ 9) (hfi : fi = x_fit TX B ut (fun v => g_up P 0 1 (nI v)) k) (fnl47 : Qn s sl47) (il47 : mI TX nT n l (g_up P 0 1 (w)) sl47), 9 < k + f47 → GW SM E (gFin SM E (gQi SM (fun r s' => RM TX P B s' ∧ r = s_corn TX P B t p))) 47 [some (.ref (e_ad E 0)), some (.int t), some (.int p), some (.int x2), some (.int fi), some (.int x41), some (.int y)] [] sl47 := by
          intro f47
          induction f47 with
          | zero =>
            intro k w fi y sl47 Ey hk hfi fnl47 il47 hf47
            exact absurd hf47 (by omega)
          | succ f47 ih47 =>
            intro k w fi y sl47 Ey hk hfi fnl47 il47 hf47
            refine G_iload C 49 dX11_corners_47 rfl rfl ?_
            refine G_bipush (v := 9) C 51 dX11_corners_49 rfl rfl ?_
            refine G_icmp_ge C 90 54 dX11_corners_51 rfl rfl (fun c51 => ?_) (fun c51 => ?_)
            ·
              have n51 : ¬ k < 9 := fun h => c51 ((g_ltN (a := k) (b := 9) (hx := Ey) (hy := rfl) (by omega) (by omega)).mpr h)
              refine G_aload_n (i := 0) C 91 dX11_corners_90 rfl rfl rfl ?_
              refine X11_19g C 94 dX11_corners_91 rfl ?_
              refine G_iconst (v := 1) C 95 dX11_corners_94 rfl rfl ?_
              refine G_iload C 97 dX11_corners_95 rfl rfl ?_
              refine G_iast (n := 13) C 98 (by decide) (fun σ => eMk (by decide) _ _ σ) (1) rfl (by omega) (by decide) (Nat.le_refl _) dX11_corners_97 rfl (fun s97 es97 => ?_)
              have fn_1 : Qn s s97 := Qn.tr fnl47 ((Qm.up es97 (by unfold mR; omega)).n)
              have i_1 : mI TX nT n l P s97 := by have z := mI_corner il47 es97 ⟨mx41, hmx41, Sx41.trans emx41⟩; rw [g_up2, Sx41, g_up_id] at z; exact z
              refine G_goto C 169 dX11_corners_98 rfl ?_
              refine G_iload C 171 dX11_corners_169 rfl rfl ?_
              exact G_iret C dX11_corners_171 (⟨RM_i hR i_1 fn_1, by unfold s_corn; rw [if_pos k7, if_pos c14, cut, hfi, show k = 9 by omega]⟩)
            ·
              have n51 : k < 9 := (g_ltN (a := k) (b := 9) (hx := Ey) (hy := rfl) (by omega) (by omega)).mp c51
              refine G_aload_n (i := 0) C 55 dX11_corners_54 rfl rfl rfl ?_
              refine X11_19g C 58 dX11_corners_55 rfl ?_
              refine G_iconst (v := 1) C 59 dX11_corners_58 rfl rfl ?_
              refine G_iload C 61 dX11_corners_59 rfl rfl ?_
              refine G_iast (n := 13) C 62 (by decide) (fun σ => eMk (by decide) _ _ σ) (1) rfl (by omega) (by decide) (Nat.le_refl _) dX11_corners_61 rfl (fun s61 es61 => ?_)
              have fn_1 : Qn s s61 := Qn.tr fnl47 ((Qm.up es61 (by unfold mR; omega)).n)
              have i_1 : mI TX nT n l (g_up P 0 1 (nI k)) s61 := by have z := mI_corner il47 es61 ⟨k, by omega, Ey⟩; rw [g_up2, Ey] at z; exact z
              refine G_iload C 64 dX11_corners_62 rfl rfl ?_
              refine G_aload_n (i := 0) C 65 dX11_corners_64 rfl rfl rfl ?_
              refine G_iload_n (i := 1) C 66 dX11_corners_65 rfl rfl rfl ?_
              refine G_calli 69 (G_runV C Kc_X11_unlike KV_X11_248 (by omega) (by decide) (eM _ _ _) rfl (c_X11_unlike 0 TX nT n l (g_up P 0 1 (nI k)) s61 i_1 t ut eut hut z hz20 (B (4 + ut)) ((congrFun (fn_1.c (by omega) (by omega)) ut).trans ((mB_sz hR.2.1 hut).trans ez)) (fun j hj => (congrFun (fn_1.c (by omega) (by omega)) _).trans (mB_nu hR.2.1 hut hj))) rfl rfl rfl (Nat.le_of_ble_eq_true rfl) rfl dX11_corners_66) rfl (fun x66 s66 h66 => ?_)
              have fn_2 : Qn s s66 := Qn.tr fn_1 (h66.1.KR)
              have i_2 : mI TX nT n l (g_up P 0 1 (nI k)) s66 := h66.2.1
              have hun : x66 = x_un TX B ut (g_up P 0 1 (nI k)) := by unfold x_un; rw [ez, nI_clamp (by omega)]; exact h66.2.2
              refine G_iconst (v := (-1)) C 70 dX11_corners_69 rfl rfl ?_
              refine G_icmp_ne C 80 73 dX11_corners_70 rfl rfl (fun c70 => ?_) (fun c70 => ?_)
              ·
                refine G_iconst (v := 0) C 81 dX11_corners_80 rfl rfl ?_
                refine G_ior C 82 dX11_corners_81 rfl (fun x81 ex81 => ?_)
                refine G_istore (L' := [some (.ref (e_ad E 0)), some (.int t), some (.int p), some (.int x2), some (.int x81), some (.int x41), some (.int y)]) C 84 dX11_corners_82 rfl (Nat.le_of_ble_eq_true rfl) rfl rfl ?_
                refine G_iinc (w := 1) C 87 dX11_corners_84 rfl rfl rfl rfl (fun x84 ex84 => ?_)
                have Nx84 : x84 = nI (k + 1) := g_addN ex84 Ey rfl
                show GW SM E _ 87 [some (.ref (e_ad E 0)), some (.int t), some (.int p), some (.int x2), some (.int x81), some (.int x41), some (.int x84)] [] s66
                refine G_goto C 47 dX11_corners_87 rfl ?_
                exact ih47 (k + 1) (nI k) x81 x84 s66 (g_cn (a := (k + 1)) Nx84 (by first | rfl | omega | (simp only [List.length_cons, List.length_drop]; done) | (simp only [List.length_cons, List.length_drop]; omega))) (by omega) (by rw [x_fit, if_neg (by rw [← hun]; exact c70), ex81, y_or0, hfi]) fn_2 (i_2) (by omega)
              ·
                refine G_iconst (v := 1) C 74 dX11_corners_73 rfl rfl ?_
                refine G_iload C 76 dX11_corners_74 rfl rfl ?_
                refine G_ishl C 77 dX11_corners_76 rfl (fun x76 ex76 => ?_)
                refine G_goto C 81 dX11_corners_77 rfl ?_
                refine G_ior C 82 dX11_corners_81 rfl (fun x81 ex81 => ?_)
                refine G_istore (L' := [some (.ref (e_ad E 0)), some (.int t), some (.int p), some (.int x2), some (.int x81), some (.int x41), some (.int y)]) C 84 dX11_corners_82 rfl (Nat.le_of_ble_eq_true rfl) rfl rfl ?_
                refine G_iinc (w := 1) C 87 dX11_corners_84 rfl rfl rfl rfl (fun x84 ex84 => ?_)
                have Nx84 : x84 = nI (k + 1) := g_addN ex84 Ey rfl
                show GW SM E _ 87 [some (.ref (e_ad E 0)), some (.int t), some (.int p), some (.int x2), some (.int x81), some (.int x41), some (.int x84)] [] s66
                refine G_goto C 47 dX11_corners_87 rfl ?_
                exact ih47 (k + 1) (nI k) x81 x84 s66 (g_cn (a := (k + 1)) Nx84 (by first | rfl | omega | (simp only [List.length_cons, List.length_drop]; done) | (simp only [List.length_cons, List.length_drop]; omega))) (by omega) (by rw [x_fit, if_pos (hun.symm.trans c70), ex81, ex76, Ey, hfi]) fn_2 (i_2) (by omega)
        exact L47 (9 + 1) 0 (P 0 1) 0 0 s (g_cn (a := 0) rfl (by first | rfl | omega)) (by omega) (rfl) fn (by rw [g_up_id]; exact i) (by omega)
    ·
      refine G_aload_n (i := 0) C 18 dX11_corners_17 rfl rfl rfl ?_
      refine G_iload_n (i := 2) C 19 dX11_corners_18 rfl rfl rfl ?_
      refine G_calli 22 (G_runV C Kc_X11_isOne KV_X11_164 (by omega) (by decide) (eM _ _ _) rfl (c_X11_isOne 0 n hn6 s (mI_n i) p) rfl rfl rfl (Nat.le_of_ble_eq_true rfl) rfl dX11_corners_19) rfl (fun x19 s19 h19 => ?_)
      obtain ⟨es19, h19⟩ := h19
      have es19 := es19.symm
      subst es19
      refine G_if_ne C 28 25 dX11_corners_22 rfl rfl (fun c22 => ?_) (fun c22 => ?_)
      ·
        have k22 := g_neT h19 c22
        obtain ⟨up, hup, eup⟩ := x_oneT hn6 k22
        have cup : p.toNatClampNeg = up := by rw [eup, nI_clamp (by omega)]
        refine G_iconst (v := 0) C 29 dX11_corners_28 rfl rfl ?_
        refine G_istore (L' := [some (.ref (e_ad E 0)), some (.int t), some (.int p), some (.int x2), some (.int 0), none, none]) C 31 dX11_corners_29 rfl (Nat.le_of_ble_eq_true rfl) rfl rfl ?_
        refine G_iload_n (i := 2) C 32 dX11_corners_31 rfl rfl rfl ?_
        refine G_iconst (v := (-1)) C 33 dX11_corners_32 rfl rfl ?_
        refine G_icmp_ne C 101 36 dX11_corners_33 rfl rfl (fun c33 => ?_) (fun c33 => ?_)
        ·
          refine G_aload_n (i := 0) C 102 dX11_corners_101 rfl rfl rfl ?_
          refine X11_16g C 105 dX11_corners_102 rfl ?_
          refine G_iconst (v := 4) C 106 dX11_corners_105 rfl rfl ?_
          refine G_iload_n (i := 2) C 107 dX11_corners_106 rfl rfl rfl ?_
          refine G_imul C 108 dX11_corners_107 rfl (fun x107 ex107 => ?_)
          have Nx107 : x107 = nI (4 * up) := g_mulN ex107 rfl eup
          refine G_iald (n := 24) C 109 (by decide) (eMk (by decide) _ _ _) ((4 * up)) Nx107 (by omega) (by decide) dX11_corners_108 rfl (fun x108 ex108 => ?_)
          have Sx108 : x108 = P 2 up := ex108.trans (congrFun (congrFun i.1 2) up)
          refine G_istore (L' := [some (.ref (e_ad E 0)), some (.int t), some (.int p), some (.int x2), some (.int 0), some (.int x108), none]) C 111 dX11_corners_109 rfl (Nat.le_of_ble_eq_true rfl) rfl rfl ?_
          refine G_iconst (v := 0) C 112 dX11_corners_111 rfl rfl ?_
          refine G_istore (L' := [some (.ref (e_ad E 0)), some (.int t), some (.int p), some (.int x2), some (.int 0), some (.int x108), some (.int 0)]) C 114 dX11_corners_112 rfl (Nat.le_of_ble_eq_true rfl) rfl rfl ?_
          have L114 : ∀ (f114 : Nat) (k : Nat) (w : Int32) (fi y : Int32) (sl114 : gS) (Ey : y = nI k) (hk : k ≤ 9) (hfi : fi = x_fit TX B ut (fun v => g_up P 2 up (nI v)) k) (fnl114 : Qn s sl114) (il114 : mI TX nT n l (g_up P 2 up (w)) sl114), 9 < k + f114 → GW SM E (gFin SM E (gQi SM (fun r s' => RM TX P B s' ∧ r = s_corn TX P B t p))) 114 [some (.ref (e_ad E 0)), some (.int t), some (.int p), some (.int x2), some (.int fi), some (.int x108), some (.int y)] [] sl114 := by
            intro f114
            induction f114 with
            | zero =>
              intro k w fi y sl114 Ey hk hfi fnl114 il114 hf114
              exact absurd hf114 (by omega)
            | succ f114 ih114 =>
              intro k w fi y sl114 Ey hk hfi fnl114 il114 hf114
              refine G_iload C 116 dX11_corners_114 rfl rfl ?_
              refine G_bipush (v := 9) C 118 dX11_corners_116 rfl rfl ?_
              refine G_icmp_ge C 159 121 dX11_corners_118 rfl rfl (fun c118 => ?_) (fun c118 => ?_)
              ·
                have n118 : ¬ k < 9 := fun h => c118 ((g_ltN (a := k) (b := 9) (hx := Ey) (hy := rfl) (by omega) (by omega)).mpr h)
                refine G_aload_n (i := 0) C 160 dX11_corners_159 rfl rfl rfl ?_
                refine X11_16g C 163 dX11_corners_160 rfl ?_
                refine G_iconst (v := 4) C 164 dX11_corners_163 rfl rfl ?_
                refine G_iload_n (i := 2) C 165 dX11_corners_164 rfl rfl rfl ?_
                refine G_imul C 166 dX11_corners_165 rfl (fun x165 ex165 => ?_)
                have Nx165 : x165 = nI (4 * up) := g_mulN ex165 rfl eup
                refine G_iload C 168 dX11_corners_166 rfl rfl ?_
                refine G_iast (n := 24) C 169 (by decide) (fun σ => eMk (by decide) _ _ σ) ((4 * up)) Nx165 (by omega) (by decide) (Nat.le_refl _) dX11_corners_168 rfl (fun s168 es168 => ?_)
                have fn_1 : Qn s s168 := Qn.tr fnl114 ((Qm.up es168 (by unfold mR; omega)).n)
                have i_1 : mI TX nT n l P s168 := by have z := mI_up2 il114 es168; rw [g_up2, Sx108, g_up_id] at z; exact z
                refine G_iload C 171 dX11_corners_169 rfl rfl ?_
                exact G_iret C dX11_corners_171 (⟨RM_i hR i_1 fn_1, by unfold s_corn; rw [if_pos k7, if_neg c14, hxn, if_neg k22, cut, cup, hfi, show k = 9 by omega]⟩)
              ·
                have n118 : k < 9 := (g_ltN (a := k) (b := 9) (hx := Ey) (hy := rfl) (by omega) (by omega)).mp c118
                refine G_aload_n (i := 0) C 122 dX11_corners_121 rfl rfl rfl ?_
                refine X11_16g C 125 dX11_corners_122 rfl ?_
                refine G_iconst (v := 4) C 126 dX11_corners_125 rfl rfl ?_
                refine G_iload_n (i := 2) C 127 dX11_corners_126 rfl rfl rfl ?_
                refine G_imul C 128 dX11_corners_127 rfl (fun x127 ex127 => ?_)
                have Nx127 : x127 = nI (4 * up) := g_mulN ex127 rfl eup
                refine G_iload C 130 dX11_corners_128 rfl rfl ?_
                refine G_iast (n := 24) C 131 (by decide) (fun σ => eMk (by decide) _ _ σ) ((4 * up)) Nx127 (by omega) (by decide) (Nat.le_refl _) dX11_corners_130 rfl (fun s130 es130 => ?_)
                have fn_1 : Qn s s130 := Qn.tr fnl114 ((Qm.up es130 (by unfold mR; omega)).n)
                have i_1 : mI TX nT n l (g_up P 2 up (nI k)) s130 := by have z := mI_up2 il114 es130; rw [g_up2, Ey] at z; exact z
                refine G_iload C 133 dX11_corners_131 rfl rfl ?_
                refine G_aload_n (i := 0) C 134 dX11_corners_133 rfl rfl rfl ?_
                refine G_iload_n (i := 1) C 135 dX11_corners_134 rfl rfl rfl ?_
                refine G_calli 138 (G_runV C Kc_X11_unlike KV_X11_248 (by omega) (by decide) (eM _ _ _) rfl (c_X11_unlike 0 TX nT n l (g_up P 2 up (nI k)) s130 i_1 t ut eut hut z hz20 (B (4 + ut)) ((congrFun (fn_1.c (by omega) (by omega)) ut).trans ((mB_sz hR.2.1 hut).trans ez)) (fun j hj => (congrFun (fn_1.c (by omega) (by omega)) _).trans (mB_nu hR.2.1 hut hj))) rfl rfl rfl (Nat.le_of_ble_eq_true rfl) rfl dX11_corners_135) rfl (fun x135 s135 h135 => ?_)
                have fn_2 : Qn s s135 := Qn.tr fn_1 (h135.1.KR)
                have i_2 : mI TX nT n l (g_up P 2 up (nI k)) s135 := h135.2.1
                have hun : x135 = x_un TX B ut (g_up P 2 up (nI k)) := by unfold x_un; rw [ez, nI_clamp (by omega)]; exact h135.2.2
                refine G_iconst (v := (-1)) C 139 dX11_corners_138 rfl rfl ?_
                refine G_icmp_ne C 149 142 dX11_corners_139 rfl rfl (fun c139 => ?_) (fun c139 => ?_)
                ·
                  refine G_iconst (v := 0) C 150 dX11_corners_149 rfl rfl ?_
                  refine G_ior C 151 dX11_corners_150 rfl (fun x150 ex150 => ?_)
                  refine G_istore (L' := [some (.ref (e_ad E 0)), some (.int t), some (.int p), some (.int x2), some (.int x150), some (.int x108), some (.int y)]) C 153 dX11_corners_151 rfl (Nat.le_of_ble_eq_true rfl) rfl rfl ?_
                  refine G_iinc (w := 1) C 156 dX11_corners_153 rfl rfl rfl rfl (fun x153 ex153 => ?_)
                  have Nx153 : x153 = nI (k + 1) := g_addN ex153 Ey rfl
                  show GW SM E _ 156 [some (.ref (e_ad E 0)), some (.int t), some (.int p), some (.int x2), some (.int x150), some (.int x108), some (.int x153)] [] s135
                  refine G_goto C 114 dX11_corners_156 rfl ?_
                  exact ih114 (k + 1) (nI k) x150 x153 s135 (g_cn (a := (k + 1)) Nx153 (by first | rfl | omega | (simp only [List.length_cons, List.length_drop]; done) | (simp only [List.length_cons, List.length_drop]; omega))) (by omega) (by rw [x_fit, if_neg (by rw [← hun]; exact c139), ex150, y_or0, hfi]) fn_2 (i_2) (by omega)
                ·
                  refine G_iconst (v := 1) C 143 dX11_corners_142 rfl rfl ?_
                  refine G_iload C 145 dX11_corners_143 rfl rfl ?_
                  refine G_ishl C 146 dX11_corners_145 rfl (fun x145 ex145 => ?_)
                  refine G_goto C 150 dX11_corners_146 rfl ?_
                  refine G_ior C 151 dX11_corners_150 rfl (fun x150 ex150 => ?_)
                  refine G_istore (L' := [some (.ref (e_ad E 0)), some (.int t), some (.int p), some (.int x2), some (.int x150), some (.int x108), some (.int y)]) C 153 dX11_corners_151 rfl (Nat.le_of_ble_eq_true rfl) rfl rfl ?_
                  refine G_iinc (w := 1) C 156 dX11_corners_153 rfl rfl rfl rfl (fun x153 ex153 => ?_)
                  have Nx153 : x153 = nI (k + 1) := g_addN ex153 Ey rfl
                  show GW SM E _ 156 [some (.ref (e_ad E 0)), some (.int t), some (.int p), some (.int x2), some (.int x150), some (.int x108), some (.int x153)] [] s135
                  refine G_goto C 114 dX11_corners_156 rfl ?_
                  exact ih114 (k + 1) (nI k) x150 x153 s135 (g_cn (a := (k + 1)) Nx153 (by first | rfl | omega | (simp only [List.length_cons, List.length_drop]; done) | (simp only [List.length_cons, List.length_drop]; omega))) (by omega) (by rw [x_fit, if_pos (hun.symm.trans c139), ex150, ex145, Ey, hfi]) fn_2 (i_2) (by omega)
          exact L114 (9 + 1) 0 (P 2 up) 0 0 s (g_cn (a := 0) rfl (by first | rfl | omega)) (by omega) (rfl) fn (by rw [g_up_id]; exact i) (by omega)
        ·
          exact absurd c33 c14
      ·
        have k22 := h19.symm.trans c22
        refine G_bipush (v := (-5)) C 27 dX11_corners_25 rfl rfl ?_
        exact G_iret C dX11_corners_27 (⟨⟨nT, n, l, hR⟩, by unfold s_corn; rw [if_pos k7, if_neg c14, hxn, if_pos k22]⟩)
  ·
    have k7 := g_neT h2 c7
    refine G_iload_n (i := 3) C 11 dX11_corners_10 rfl rfl rfl ?_
    exact G_iret C dX11_corners_11 (⟨⟨nT, n, l, hR⟩, by unfold s_corn; rw [if_neg k7]; exact h2⟩)
theorem dX11_turned_0 : decode cX11_turned 0 = .ok (.aload_n 0, 1) := by decide +kernel
theorem dX11_turned_1 : decode cX11_turned 1 = .ok (.iload_n 1, 1) := by decide +kernel
theorem dX11_turned_2 : decode cX11_turned 2 = .ok (.invokevirtual 245, 3) := by decide +kernel
theorem dX11_turned_5 : decode cX11_turned 5 = .ok (.istore 4, 2) := by decide +kernel
theorem dX11_turned_7 : decode cX11_turned 7 = .ok (.iload 4, 2) := by decide +kernel
theorem dX11_turned_9 : decode cX11_turned 9 = .ok (.ifCond .eq 6, 3) := by decide +kernel
theorem dX11_turned_12 : decode cX11_turned 12 = .ok (.iload 4, 2) := by decide +kernel
theorem dX11_turned_14 : decode cX11_turned 14 = .ok (.ireturn, 1) := by decide +kernel
theorem dX11_turned_15 : decode cX11_turned 15 = .ok (.aload_n 0, 1) := by decide +kernel
theorem dX11_turned_16 : decode cX11_turned 16 = .ok (.iload_n 2, 1) := by decide +kernel
theorem dX11_turned_17 : decode cX11_turned 17 = .ok (.invokevirtual 164, 3) := by decide +kernel
theorem dX11_turned_20 : decode cX11_turned 20 = .ok (.ifCond .ne 6, 3) := by decide +kernel
theorem dX11_turned_23 : decode cX11_turned 23 = .ok (.bipush (-5), 2) := by decide +kernel
theorem dX11_turned_25 : decode cX11_turned 25 = .ok (.ireturn, 1) := by decide +kernel
theorem dX11_turned_26 : decode cX11_turned 26 = .ok (.iload_n 3, 1) := by decide +kernel
theorem dX11_turned_27 : decode cX11_turned 27 = .ok (.iconst 1, 1) := by decide +kernel
theorem dX11_turned_28 : decode cX11_turned 28 = .ok (.iconst 2, 1) := by decide +kernel
theorem dX11_turned_29 : decode cX11_turned 29 = .ok (.invokestatic 78, 3) := by decide +kernel
theorem dX11_turned_32 : decode cX11_turned 32 = .ok (.ifCond .ne 6, 3) := by decide +kernel
theorem dX11_turned_35 : decode cX11_turned 35 = .ok (.bipush (-7), 2) := by decide +kernel
theorem dX11_turned_37 : decode cX11_turned 37 = .ok (.ireturn, 1) := by decide +kernel
theorem dX11_turned_38 : decode cX11_turned 38 = .ok (.iconst 0, 1) := by decide +kernel
theorem dX11_turned_39 : decode cX11_turned 39 = .ok (.istore 5, 2) := by decide +kernel
theorem dX11_turned_41 : decode cX11_turned 41 = .ok (.iconst 0, 1) := by decide +kernel
theorem dX11_turned_42 : decode cX11_turned 42 = .ok (.istore 6, 2) := by decide +kernel
theorem dX11_turned_44 : decode cX11_turned 44 = .ok (.iload 6, 2) := by decide +kernel
theorem dX11_turned_46 : decode cX11_turned 46 = .ok (.bipush 10, 2) := by decide +kernel
theorem dX11_turned_48 : decode cX11_turned 48 = .ok (.if_icmp .ge 65, 3) := by decide +kernel
theorem dX11_turned_51 : decode cX11_turned 51 = .ok (.aload_n 0, 1) := by decide +kernel
theorem dX11_turned_52 : decode cX11_turned 52 = .ok (.getfield 16, 3) := by decide +kernel
theorem dX11_turned_55 : decode cX11_turned 55 = .ok (.iconst 4, 1) := by decide +kernel
theorem dX11_turned_56 : decode cX11_turned 56 = .ok (.iload_n 2, 1) := by decide +kernel
theorem dX11_turned_57 : decode cX11_turned 57 = .ok (.imul, 1) := by decide +kernel
theorem dX11_turned_58 : decode cX11_turned 58 = .ok (.iload_n 3, 1) := by decide +kernel
theorem dX11_turned_59 : decode cX11_turned 59 = .ok (.iadd, 1) := by decide +kernel
theorem dX11_turned_60 : decode cX11_turned 60 = .ok (.dup2, 1) := by decide +kernel
theorem dX11_turned_61 : decode cX11_turned 61 = .ok (.iaload, 1) := by decide +kernel
theorem dX11_turned_62 : decode cX11_turned 62 = .ok (.iconst 1, 1) := by decide +kernel
theorem dX11_turned_63 : decode cX11_turned 63 = .ok (.iload 6, 2) := by decide +kernel
theorem dX11_turned_65 : decode cX11_turned 65 = .ok (.ishl, 1) := by decide +kernel
theorem dX11_turned_66 : decode cX11_turned 66 = .ok (.ixor, 1) := by decide +kernel
theorem dX11_turned_67 : decode cX11_turned 67 = .ok (.iastore, 1) := by decide +kernel
theorem dX11_turned_68 : decode cX11_turned 68 = .ok (.iload 5, 2) := by decide +kernel
theorem dX11_turned_70 : decode cX11_turned 70 = .ok (.aload_n 0, 1) := by decide +kernel
theorem dX11_turned_71 : decode cX11_turned 71 = .ok (.iload_n 1, 1) := by decide +kernel
theorem dX11_turned_72 : decode cX11_turned 72 = .ok (.invokevirtual 248, 3) := by decide +kernel
theorem dX11_turned_75 : decode cX11_turned 75 = .ok (.iconst (-1), 1) := by decide +kernel
theorem dX11_turned_76 : decode cX11_turned 76 = .ok (.if_icmp .ne 10, 3) := by decide +kernel
theorem dX11_turned_79 : decode cX11_turned 79 = .ok (.iconst 1, 1) := by decide +kernel
theorem dX11_turned_80 : decode cX11_turned 80 = .ok (.iload 6, 2) := by decide +kernel
theorem dX11_turned_82 : decode cX11_turned 82 = .ok (.ishl, 1) := by decide +kernel
theorem dX11_turned_83 : decode cX11_turned 83 = .ok (.goto 4, 3) := by decide +kernel
theorem dX11_turned_86 : decode cX11_turned 86 = .ok (.iconst 0, 1) := by decide +kernel
theorem dX11_turned_87 : decode cX11_turned 87 = .ok (.ior, 1) := by decide +kernel
theorem dX11_turned_88 : decode cX11_turned 88 = .ok (.istore 5, 2) := by decide +kernel
theorem dX11_turned_90 : decode cX11_turned 90 = .ok (.aload_n 0, 1) := by decide +kernel
theorem dX11_turned_91 : decode cX11_turned 91 = .ok (.getfield 16, 3) := by decide +kernel
theorem dX11_turned_94 : decode cX11_turned 94 = .ok (.iconst 4, 1) := by decide +kernel
theorem dX11_turned_95 : decode cX11_turned 95 = .ok (.iload_n 2, 1) := by decide +kernel
theorem dX11_turned_96 : decode cX11_turned 96 = .ok (.imul, 1) := by decide +kernel
theorem dX11_turned_97 : decode cX11_turned 97 = .ok (.iload_n 3, 1) := by decide +kernel
theorem dX11_turned_98 : decode cX11_turned 98 = .ok (.iadd, 1) := by decide +kernel
theorem dX11_turned_99 : decode cX11_turned 99 = .ok (.dup2, 1) := by decide +kernel
theorem dX11_turned_100 : decode cX11_turned 100 = .ok (.iaload, 1) := by decide +kernel
theorem dX11_turned_101 : decode cX11_turned 101 = .ok (.iconst 1, 1) := by decide +kernel
theorem dX11_turned_102 : decode cX11_turned 102 = .ok (.iload 6, 2) := by decide +kernel
theorem dX11_turned_104 : decode cX11_turned 104 = .ok (.ishl, 1) := by decide +kernel
theorem dX11_turned_105 : decode cX11_turned 105 = .ok (.ixor, 1) := by decide +kernel
theorem dX11_turned_106 : decode cX11_turned 106 = .ok (.iastore, 1) := by decide +kernel
theorem dX11_turned_107 : decode cX11_turned 107 = .ok (.iinc 6 1, 3) := by decide +kernel
theorem dX11_turned_110 : decode cX11_turned 110 = .ok (.goto (-66), 3) := by decide +kernel
theorem dX11_turned_113 : decode cX11_turned 113 = .ok (.iload 5, 2) := by decide +kernel
theorem dX11_turned_115 : decode cX11_turned 115 = .ok (.ireturn, 1) := by decide +kernel
set_option maxHeartbeats 4000000 in
set_option maxRecDepth 100000 in
theorem c_X11_turned (d : Nat) (TX : gTX) (P B s : gS) (hR0 : RM TX P B s) (t p q : Int32) : gMt SM yX11_turned cX11_turned 7 (some .int) (d + 11) (fun ad => [.ref (ad 0), .int t, .int p, .int q]) s (gQi SM (fun r s' => RM TX P B s' ∧ r = s_turn TX P B t p q)) := by
  obtain ⟨nT, n, l, hR⟩ := hR0
  have hI := hR.1
  have hn6 : n ≤ 6 := hI.2.1.2.1
  have hl6 : l < 6 := mI_l6 hI
  have hxn : x_n P = n := x_nOf hI.2.1.1 hn6
  have hbI := hR.2.2
  have hnT6 : nT ≤ 6 := hI.2.1.2.2.2.2.1
  obtain ⟨tn0, htn0, etn0⟩ := hbI.2.1
  refine gMt_of SM_ok (by decide +kernel) (fun ad => [some (.ref (ad 0)), some (.int t), some (.int p), some (.int q), none, none, none]) (fun _ => rfl) (fun _ => rfl) (fun _ => Nat.le_of_ble_eq_true rfl) (fun E C0 => ?_)
  have C : gCx SM E RX11 cX11_turned 7 (some .int) (d + 11) := C0
  have fn : Qn s s := Qn.rf
  have i : mI TX nT n l P s := hI
  refine G_aload_n (i := 0) C 1 dX11_turned_0 rfl rfl rfl ?_
  refine G_iload_n (i := 1) C 2 dX11_turned_1 rfl rfl rfl ?_
  refine G_calli 5 (G_runV C Kc_X11_sheetWrong KV_X11_245 (by omega) (by decide) (eM _ _ _) rfl (c_X11_sheetWrong 0 TX P B s ⟨nT, n, l, hR⟩ t) rfl rfl rfl (Nat.le_of_ble_eq_true rfl) rfl dX11_turned_2) rfl (fun x2 s2 h2 => ?_)
  obtain ⟨es2, h2⟩ := h2
  have es2 := es2.symm
  subst es2
  refine G_istore (L' := [some (.ref (e_ad E 0)), some (.int t), some (.int p), some (.int q), some (.int x2), none, none]) C 7 dX11_turned_5 rfl (Nat.le_of_ble_eq_true rfl) rfl rfl ?_
  refine G_iload C 9 dX11_turned_7 rfl rfl ?_
  refine G_if_eq C 15 12 dX11_turned_9 rfl rfl (fun c9 => ?_) (fun c9 => ?_)
  ·
    have k9 := h2.symm.trans c9
    obtain ⟨ut, hut, eut, cut, z, hz20, ez⟩ := s_refI hbI.2.2.2.2.1 k9
    refine G_aload_n (i := 0) C 16 dX11_turned_15 rfl rfl rfl ?_
    refine G_iload_n (i := 2) C 17 dX11_turned_16 rfl rfl rfl ?_
    refine G_calli 20 (G_runV C Kc_X11_isOne KV_X11_164 (by omega) (by decide) (eM _ _ _) rfl (c_X11_isOne 0 n hn6 s (mI_n i) p) rfl rfl rfl (Nat.le_of_ble_eq_true rfl) rfl dX11_turned_17) rfl (fun x17 s17 h17 => ?_)
    obtain ⟨es17, h17⟩ := h17
    have es17 := es17.symm
    subst es17
    refine G_if_ne C 26 23 dX11_turned_20 rfl rfl (fun c20 => ?_) (fun c20 => ?_)
    ·
      have k20 := g_neT h17 c20
      obtain ⟨up, hup, eup⟩ := x_oneT hn6 k20
      have cup : p.toNatClampNeg = up := by rw [eup, nI_clamp (by omega)]
      refine G_iload_n (i := 3) C 27 dX11_turned_26 rfl rfl rfl ?_
      refine G_iconst (v := 1) C 28 dX11_turned_27 rfl rfl ?_
      refine G_iconst (v := 2) C 29 dX11_turned_28 rfl rfl ?_
      refine G_calli 32 (G_runS C Kc_X11_in KS_X11_78 (by omega) (c_X11_in 0 q 1 2 s) rfl rfl (Nat.le_of_ble_eq_true rfl) rfl dX11_turned_29) rfl (fun x29 s29 h29 => ?_)
      obtain ⟨es29, h29⟩ := h29
      have es29 := es29.symm
      subst es29
      refine G_if_ne C 38 35 dX11_turned_32 rfl rfl (fun c32 => ?_) (fun c32 => ?_)
      ·
        have k32 := g_neT h29 c32
        obtain ⟨uq, gq, huq, euq⟩ := x_inR1 (b := 2) k32 rfl (by decide)
        have zuq : uq = 1 ∨ uq = 2 := by omega
        rcases zuq with rfl | rfl
        ·
          obtain rfl : q = 1 := euq
          refine G_iconst (v := 0) C 39 dX11_turned_38 rfl rfl ?_
          refine G_istore (L' := [some (.ref (e_ad E 0)), some (.int t), some (.int p), some (.int 1), some (.int x2), some (.int 0), none]) C 41 dX11_turned_39 rfl (Nat.le_of_ble_eq_true rfl) rfl rfl ?_
          refine G_iconst (v := 0) C 42 dX11_turned_41 rfl rfl ?_
          refine G_istore (L' := [some (.ref (e_ad E 0)), some (.int t), some (.int p), some (.int 1), some (.int x2), some (.int 0), some (.int 0)]) C 44 dX11_turned_42 rfl (Nat.le_of_ble_eq_true rfl) rfl rfl ?_
          have L44 : ∀ (f44 : Nat) (k : Nat) (fi y : Int32) (sl44 : gS) (Ey : y = nI k) (hk : k ≤ 10) (hfi : fi = x_fit TX B ut (fun v => g_up P 3 up (P 3 up ^^^ ((1 : Int32) <<< (nI v &&& 31)))) k) (fnl44 : Qn s sl44) (il44 : mI TX nT n l P sl44), 10 < k + f44 → GW SM E (gFin SM E (gQi SM (fun r s' => RM TX P B s' ∧ r = s_turn TX P B t p 1))) 44 [some (.ref (e_ad E 0)), some (.int t), some (.int p), some (.int 1), some (.int x2), some (.int fi), some (.int y)] [] sl44 := by
            intro f44
            induction f44 with
            | zero =>
              intro k fi y sl44 Ey hk hfi fnl44 il44 hf44
              exact absurd hf44 (by omega)
            | succ f44 ih44 =>
              intro k fi y sl44 Ey hk hfi fnl44 il44 hf44
              refine G_iload C 46 dX11_turned_44 rfl rfl ?_
              refine G_bipush (v := 10) C 48 dX11_turned_46 rfl rfl ?_
              refine G_icmp_ge C 113 51 dX11_turned_48 rfl rfl (fun c48 => ?_) (fun c48 => ?_)
              ·
                have n48 : ¬ k < 10 := fun h => c48 ((g_ltN (a := k) (b := 10) (hx := Ey) (hy := rfl) (by omega) (by omega)).mpr h)
                refine G_iload C 115 dX11_turned_113 rfl rfl ?_
                exact G_iret C dX11_turned_115 (⟨RM_i hR il44 fnl44, by unfold s_turn; rw [if_pos k9, hxn, if_neg k20, if_neg k32, cut, cup, hfi, show k = 10 by omega]; rfl⟩)
              ·
                have n48 : k < 10 := (g_ltN (a := k) (b := 10) (hx := Ey) (hy := rfl) (by omega) (by omega)).mp c48
                refine G_aload_n (i := 0) C 52 dX11_turned_51 rfl rfl rfl ?_
                refine X11_16g C 55 dX11_turned_52 rfl ?_
                refine G_iconst (v := 4) C 56 dX11_turned_55 rfl rfl ?_
                refine G_iload_n (i := 2) C 57 dX11_turned_56 rfl rfl rfl ?_
                refine G_imul C 58 dX11_turned_57 rfl (fun x57 ex57 => ?_)
                have Nx57 : x57 = nI (4 * up) := g_mulN ex57 rfl eup
                refine G_iload_n (i := 3) C 59 dX11_turned_58 rfl rfl rfl ?_
                refine G_iadd C 60 dX11_turned_59 rfl (fun x59 ex59 => ?_)
                have Nx59 : x59 = nI ((4 * up) + 1) := g_addN ex59 Nx57 rfl
                refine G_dup2 C 61 dX11_turned_60 rfl rfl rfl ?_
                refine G_iald (n := 24) C 62 (by decide) (eMk (by decide) _ _ _) (((4 * up) + 1)) Nx59 (by omega) (by decide) dX11_turned_61 rfl (fun x61 ex61 => ?_)
                have Sx61 : x61 = P 3 up := ex61.trans (congrFun (congrFun il44.1 3) up)
                obtain ⟨mx61, hmx61, emx61⟩ := (mI_p il44 (p := up) (by omega)).2.1
                refine G_iconst (v := 1) C 63 dX11_turned_62 rfl rfl ?_
                refine G_iload C 65 dX11_turned_63 rfl rfl ?_
                refine G_ishl C 66 dX11_turned_65 rfl (fun x65 ex65 => ?_)
                refine G_ixor C 67 dX11_turned_66 rfl (fun x66 ex66 => ?_)
                refine G_iast (n := 24) C 68 (by decide) (fun σ => eMk (by decide) _ _ σ) (((4 * up) + 1)) Nx59 (by omega) (by decide) (Nat.le_refl _) dX11_turned_67 rfl (fun s67 es67 => ?_)
                have fn_1 : Qn s s67 := Qn.tr fnl44 ((Qm.up es67 (by unfold mR; omega)).n)
                have i_1 : mI TX nT n l (g_up P 3 up (P 3 up ^^^ ((1 : Int32) <<< (nI k &&& 31)))) s67 := by have z := mI_up3 il44 es67 (by rw [ex66, ex65, Ey, Sx61]; exact bt_xor1024 ⟨mx61, hmx61, emx61⟩ (bt_1024p (by omega))); rw [ex66, ex65, Ey, Sx61] at z; exact z
                refine G_iload C 70 dX11_turned_68 rfl rfl ?_
                refine G_aload_n (i := 0) C 71 dX11_turned_70 rfl rfl rfl ?_
                refine G_iload_n (i := 1) C 72 dX11_turned_71 rfl rfl rfl ?_
                refine G_calli 75 (G_runV C Kc_X11_unlike KV_X11_248 (by omega) (by decide) (eM _ _ _) rfl (c_X11_unlike 0 TX nT n l (g_up P 3 up (P 3 up ^^^ ((1 : Int32) <<< (nI k &&& 31)))) s67 i_1 t ut eut hut z hz20 (B (4 + ut)) ((congrFun (fn_1.c (by omega) (by omega)) ut).trans ((mB_sz hR.2.1 hut).trans ez)) (fun j hj => (congrFun (fn_1.c (by omega) (by omega)) _).trans (mB_nu hR.2.1 hut hj))) rfl rfl rfl (Nat.le_of_ble_eq_true rfl) rfl dX11_turned_72) rfl (fun x72 s72 h72 => ?_)
                have fn_2 : Qn s s72 := Qn.tr fn_1 (h72.1.KR)
                have i_2 : mI TX nT n l (g_up P 3 up (P 3 up ^^^ ((1 : Int32) <<< (nI k &&& 31)))) s72 := h72.2.1
                have hun : x72 = x_un TX B ut (g_up P 3 up (P 3 up ^^^ ((1 : Int32) <<< (nI k &&& 31)))) := by unfold x_un; rw [ez, nI_clamp (by omega)]; exact h72.2.2
                refine G_iconst (v := (-1)) C 76 dX11_turned_75 rfl rfl ?_
                refine G_icmp_ne C 86 79 dX11_turned_76 rfl rfl (fun c76 => ?_) (fun c76 => ?_)
                ·
                  refine G_iconst (v := 0) C 87 dX11_turned_86 rfl rfl ?_
                  refine G_ior C 88 dX11_turned_87 rfl (fun x87 ex87 => ?_)
                  refine G_istore (L' := [some (.ref (e_ad E 0)), some (.int t), some (.int p), some (.int 1), some (.int x2), some (.int x87), some (.int y)]) C 90 dX11_turned_88 rfl (Nat.le_of_ble_eq_true rfl) rfl rfl ?_
                  refine G_aload_n (i := 0) C 91 dX11_turned_90 rfl rfl rfl ?_
                  refine X11_16g C 94 dX11_turned_91 rfl ?_
                  refine G_iconst (v := 4) C 95 dX11_turned_94 rfl rfl ?_
                  refine G_iload_n (i := 2) C 96 dX11_turned_95 rfl rfl rfl ?_
                  refine G_imul C 97 dX11_turned_96 rfl (fun x96 ex96 => ?_)
                  have Nx96 : x96 = nI (4 * up) := g_mulN ex96 rfl eup
                  refine G_iload_n (i := 3) C 98 dX11_turned_97 rfl rfl rfl ?_
                  refine G_iadd C 99 dX11_turned_98 rfl (fun x98 ex98 => ?_)
                  have Nx98 : x98 = nI ((4 * up) + 1) := g_addN ex98 Nx96 rfl
                  refine G_dup2 C 100 dX11_turned_99 rfl rfl rfl ?_
                  refine G_iald (n := 24) C 101 (by decide) (eMk (by decide) _ _ _) (((4 * up) + 1)) Nx98 (by omega) (by decide) dX11_turned_100 rfl (fun x100 ex100 => ?_)
                  have Sx100 : x100 = (g_up P 3 up (P 3 up ^^^ ((1 : Int32) <<< (nI k &&& 31)))) 3 up := ex100.trans (congrFun (congrFun i_2.1 3) up)
                  obtain ⟨mx100, hmx100, emx100⟩ := (mI_p i_2 (p := up) (by omega)).2.1
                  refine G_iconst (v := 1) C 102 dX11_turned_101 rfl rfl ?_
                  refine G_iload C 104 dX11_turned_102 rfl rfl ?_
                  refine G_ishl C 105 dX11_turned_104 rfl (fun x104 ex104 => ?_)
                  refine G_ixor C 106 dX11_turned_105 rfl (fun x105 ex105 => ?_)
                  refine G_iast (n := 24) C 107 (by decide) (fun σ => eMk (by decide) _ _ σ) (((4 * up) + 1)) Nx98 (by omega) (by decide) (Nat.le_refl _) dX11_turned_106 rfl (fun s106 es106 => ?_)
                  have fn_3 : Qn s s106 := Qn.tr fn_2 ((Qm.up es106 (by unfold mR; omega)).n)
                  have i_3 : mI TX nT n l P s106 := by have z := mI_up3 i_2 es106 (by rw [ex105, ex104, Ey, Sx100]; exact bt_xor1024 ⟨mx100, hmx100, emx100⟩ (bt_1024p (by omega))); rw [ex105, ex104, Ey, Sx100, g_up_sj, if_pos rfl, g_up2, y_xx, g_up_id] at z; exact z
                  refine G_iinc (w := 1) C 110 dX11_turned_107 rfl rfl rfl rfl (fun x107 ex107 => ?_)
                  have Nx107 : x107 = nI (k + 1) := g_addN ex107 Ey rfl
                  show GW SM E _ 110 [some (.ref (e_ad E 0)), some (.int t), some (.int p), some (.int 1), some (.int x2), some (.int x87), some (.int x107)] [] s106
                  refine G_goto C 44 dX11_turned_110 rfl ?_
                  exact ih44 (k + 1) x87 x107 s106 (g_cn (a := (k + 1)) Nx107 (by first | rfl | omega | (simp only [List.length_cons, List.length_drop]; done) | (simp only [List.length_cons, List.length_drop]; omega))) (by omega) (by rw [x_fit, if_neg (by rw [← hun]; exact c76), ex87, y_or0, hfi]) fn_3 i_3 (by omega)
                ·
                  refine G_iconst (v := 1) C 80 dX11_turned_79 rfl rfl ?_
                  refine G_iload C 82 dX11_turned_80 rfl rfl ?_
                  refine G_ishl C 83 dX11_turned_82 rfl (fun x82 ex82 => ?_)
                  refine G_goto C 87 dX11_turned_83 rfl ?_
                  refine G_ior C 88 dX11_turned_87 rfl (fun x87 ex87 => ?_)
                  refine G_istore (L' := [some (.ref (e_ad E 0)), some (.int t), some (.int p), some (.int 1), some (.int x2), some (.int x87), some (.int y)]) C 90 dX11_turned_88 rfl (Nat.le_of_ble_eq_true rfl) rfl rfl ?_
                  refine G_aload_n (i := 0) C 91 dX11_turned_90 rfl rfl rfl ?_
                  refine X11_16g C 94 dX11_turned_91 rfl ?_
                  refine G_iconst (v := 4) C 95 dX11_turned_94 rfl rfl ?_
                  refine G_iload_n (i := 2) C 96 dX11_turned_95 rfl rfl rfl ?_
                  refine G_imul C 97 dX11_turned_96 rfl (fun x96 ex96 => ?_)
                  have Nx96 : x96 = nI (4 * up) := g_mulN ex96 rfl eup
                  refine G_iload_n (i := 3) C 98 dX11_turned_97 rfl rfl rfl ?_
                  refine G_iadd C 99 dX11_turned_98 rfl (fun x98 ex98 => ?_)
                  have Nx98 : x98 = nI ((4 * up) + 1) := g_addN ex98 Nx96 rfl
                  refine G_dup2 C 100 dX11_turned_99 rfl rfl rfl ?_
                  refine G_iald (n := 24) C 101 (by decide) (eMk (by decide) _ _ _) (((4 * up) + 1)) Nx98 (by omega) (by decide) dX11_turned_100 rfl (fun x100 ex100 => ?_)
                  have Sx100 : x100 = (g_up P 3 up (P 3 up ^^^ ((1 : Int32) <<< (nI k &&& 31)))) 3 up := ex100.trans (congrFun (congrFun i_2.1 3) up)
                  obtain ⟨mx100, hmx100, emx100⟩ := (mI_p i_2 (p := up) (by omega)).2.1
                  refine G_iconst (v := 1) C 102 dX11_turned_101 rfl rfl ?_
                  refine G_iload C 104 dX11_turned_102 rfl rfl ?_
                  refine G_ishl C 105 dX11_turned_104 rfl (fun x104 ex104 => ?_)
                  refine G_ixor C 106 dX11_turned_105 rfl (fun x105 ex105 => ?_)
                  refine G_iast (n := 24) C 107 (by decide) (fun σ => eMk (by decide) _ _ σ) (((4 * up) + 1)) Nx98 (by omega) (by decide) (Nat.le_refl _) dX11_turned_106 rfl (fun s106 es106 => ?_)
                  have fn_3 : Qn s s106 := Qn.tr fn_2 ((Qm.up es106 (by unfold mR; omega)).n)
                  have i_3 : mI TX nT n l P s106 := by have z := mI_up3 i_2 es106 (by rw [ex105, ex104, Ey, Sx100]; exact bt_xor1024 ⟨mx100, hmx100, emx100⟩ (bt_1024p (by omega))); rw [ex105, ex104, Ey, Sx100, g_up_sj, if_pos rfl, g_up2, y_xx, g_up_id] at z; exact z
                  refine G_iinc (w := 1) C 110 dX11_turned_107 rfl rfl rfl rfl (fun x107 ex107 => ?_)
                  have Nx107 : x107 = nI (k + 1) := g_addN ex107 Ey rfl
                  show GW SM E _ 110 [some (.ref (e_ad E 0)), some (.int t), some (.int p), some (.int 1), some (.int x2), some (.int x87), some (.int x107)] [] s106
                  refine G_goto C 44 dX11_turned_110 rfl ?_
                  exact ih44 (k + 1) x87 x107 s106 (g_cn (a := (k + 1)) Nx107 (by first | rfl | omega | (simp only [List.length_cons, List.length_drop]; done) | (simp only [List.length_cons, List.length_drop]; omega))) (by omega) (by rw [x_fit, if_pos (hun.symm.trans c76), ex87, ex82, Ey, hfi]) fn_3 i_3 (by omega)
          exact L44 (10 + 1) 0 0 0 s (g_cn (a := 0) rfl (by first | rfl | omega)) (by omega) (rfl) fn i (by omega)
        ·
          obtain rfl : q = 2 := euq
          refine G_iconst (v := 0) C 39 dX11_turned_38 rfl rfl ?_
          refine G_istore (L' := [some (.ref (e_ad E 0)), some (.int t), some (.int p), some (.int 2), some (.int x2), some (.int 0), none]) C 41 dX11_turned_39 rfl (Nat.le_of_ble_eq_true rfl) rfl rfl ?_
          refine G_iconst (v := 0) C 42 dX11_turned_41 rfl rfl ?_
          refine G_istore (L' := [some (.ref (e_ad E 0)), some (.int t), some (.int p), some (.int 2), some (.int x2), some (.int 0), some (.int 0)]) C 44 dX11_turned_42 rfl (Nat.le_of_ble_eq_true rfl) rfl rfl ?_
          have L44 : ∀ (f44 : Nat) (k : Nat) (fi y : Int32) (sl44 : gS) (Ey : y = nI k) (hk : k ≤ 10) (hfi : fi = x_fit TX B ut (fun v => g_up P 4 up (P 4 up ^^^ ((1 : Int32) <<< (nI v &&& 31)))) k) (fnl44 : Qn s sl44) (il44 : mI TX nT n l P sl44), 10 < k + f44 → GW SM E (gFin SM E (gQi SM (fun r s' => RM TX P B s' ∧ r = s_turn TX P B t p 2))) 44 [some (.ref (e_ad E 0)), some (.int t), some (.int p), some (.int 2), some (.int x2), some (.int fi), some (.int y)] [] sl44 := by
            intro f44
            induction f44 with
            | zero =>
              intro k fi y sl44 Ey hk hfi fnl44 il44 hf44
              exact absurd hf44 (by omega)
            | succ f44 ih44 =>
              intro k fi y sl44 Ey hk hfi fnl44 il44 hf44
              refine G_iload C 46 dX11_turned_44 rfl rfl ?_
              refine G_bipush (v := 10) C 48 dX11_turned_46 rfl rfl ?_
              refine G_icmp_ge C 113 51 dX11_turned_48 rfl rfl (fun c48 => ?_) (fun c48 => ?_)
              ·
                have n48 : ¬ k < 10 := fun h => c48 ((g_ltN (a := k) (b := 10) (hx := Ey) (hy := rfl) (by omega) (by omega)).mpr h)
                refine G_iload C 115 dX11_turned_113 rfl rfl ?_
                exact G_iret C dX11_turned_115 (⟨RM_i hR il44 fnl44, by unfold s_turn; rw [if_pos k9, hxn, if_neg k20, if_neg k32, cut, cup, hfi, show k = 10 by omega]; rfl⟩)
              ·
                have n48 : k < 10 := (g_ltN (a := k) (b := 10) (hx := Ey) (hy := rfl) (by omega) (by omega)).mp c48
                refine G_aload_n (i := 0) C 52 dX11_turned_51 rfl rfl rfl ?_
                refine X11_16g C 55 dX11_turned_52 rfl ?_
                refine G_iconst (v := 4) C 56 dX11_turned_55 rfl rfl ?_
                refine G_iload_n (i := 2) C 57 dX11_turned_56 rfl rfl rfl ?_
                refine G_imul C 58 dX11_turned_57 rfl (fun x57 ex57 => ?_)
                have Nx57 : x57 = nI (4 * up) := g_mulN ex57 rfl eup
                refine G_iload_n (i := 3) C 59 dX11_turned_58 rfl rfl rfl ?_
                refine G_iadd C 60 dX11_turned_59 rfl (fun x59 ex59 => ?_)
                have Nx59 : x59 = nI ((4 * up) + 2) := g_addN ex59 Nx57 rfl
                refine G_dup2 C 61 dX11_turned_60 rfl rfl rfl ?_
                refine G_iald (n := 24) C 62 (by decide) (eMk (by decide) _ _ _) (((4 * up) + 2)) Nx59 (by omega) (by decide) dX11_turned_61 rfl (fun x61 ex61 => ?_)
                have Sx61 : x61 = P 4 up := ex61.trans (congrFun (congrFun il44.1 4) up)
                obtain ⟨mx61, hmx61, emx61⟩ := (mI_p il44 (p := up) (by omega)).2.2
                refine G_iconst (v := 1) C 63 dX11_turned_62 rfl rfl ?_
                refine G_iload C 65 dX11_turned_63 rfl rfl ?_
                refine G_ishl C 66 dX11_turned_65 rfl (fun x65 ex65 => ?_)
                refine G_ixor C 67 dX11_turned_66 rfl (fun x66 ex66 => ?_)
                refine G_iast (n := 24) C 68 (by decide) (fun σ => eMk (by decide) _ _ σ) (((4 * up) + 2)) Nx59 (by omega) (by decide) (Nat.le_refl _) dX11_turned_67 rfl (fun s67 es67 => ?_)
                have fn_1 : Qn s s67 := Qn.tr fnl44 ((Qm.up es67 (by unfold mR; omega)).n)
                have i_1 : mI TX nT n l (g_up P 4 up (P 4 up ^^^ ((1 : Int32) <<< (nI k &&& 31)))) s67 := by have z := mI_up4 il44 es67 (by rw [ex66, ex65, Ey, Sx61]; exact bt_xor1024 ⟨mx61, hmx61, emx61⟩ (bt_1024p (by omega))); rw [ex66, ex65, Ey, Sx61] at z; exact z
                refine G_iload C 70 dX11_turned_68 rfl rfl ?_
                refine G_aload_n (i := 0) C 71 dX11_turned_70 rfl rfl rfl ?_
                refine G_iload_n (i := 1) C 72 dX11_turned_71 rfl rfl rfl ?_
                refine G_calli 75 (G_runV C Kc_X11_unlike KV_X11_248 (by omega) (by decide) (eM _ _ _) rfl (c_X11_unlike 0 TX nT n l (g_up P 4 up (P 4 up ^^^ ((1 : Int32) <<< (nI k &&& 31)))) s67 i_1 t ut eut hut z hz20 (B (4 + ut)) ((congrFun (fn_1.c (by omega) (by omega)) ut).trans ((mB_sz hR.2.1 hut).trans ez)) (fun j hj => (congrFun (fn_1.c (by omega) (by omega)) _).trans (mB_nu hR.2.1 hut hj))) rfl rfl rfl (Nat.le_of_ble_eq_true rfl) rfl dX11_turned_72) rfl (fun x72 s72 h72 => ?_)
                have fn_2 : Qn s s72 := Qn.tr fn_1 (h72.1.KR)
                have i_2 : mI TX nT n l (g_up P 4 up (P 4 up ^^^ ((1 : Int32) <<< (nI k &&& 31)))) s72 := h72.2.1
                have hun : x72 = x_un TX B ut (g_up P 4 up (P 4 up ^^^ ((1 : Int32) <<< (nI k &&& 31)))) := by unfold x_un; rw [ez, nI_clamp (by omega)]; exact h72.2.2
                refine G_iconst (v := (-1)) C 76 dX11_turned_75 rfl rfl ?_
                refine G_icmp_ne C 86 79 dX11_turned_76 rfl rfl (fun c76 => ?_) (fun c76 => ?_)
                ·
                  refine G_iconst (v := 0) C 87 dX11_turned_86 rfl rfl ?_
                  refine G_ior C 88 dX11_turned_87 rfl (fun x87 ex87 => ?_)
                  refine G_istore (L' := [some (.ref (e_ad E 0)), some (.int t), some (.int p), some (.int 2), some (.int x2), some (.int x87), some (.int y)]) C 90 dX11_turned_88 rfl (Nat.le_of_ble_eq_true rfl) rfl rfl ?_
                  refine G_aload_n (i := 0) C 91 dX11_turned_90 rfl rfl rfl ?_
                  refine X11_16g C 94 dX11_turned_91 rfl ?_
                  refine G_iconst (v := 4) C 95 dX11_turned_94 rfl rfl ?_
                  refine G_iload_n (i := 2) C 96 dX11_turned_95 rfl rfl rfl ?_
                  refine G_imul C 97 dX11_turned_96 rfl (fun x96 ex96 => ?_)
                  have Nx96 : x96 = nI (4 * up) := g_mulN ex96 rfl eup
                  refine G_iload_n (i := 3) C 98 dX11_turned_97 rfl rfl rfl ?_
                  refine G_iadd C 99 dX11_turned_98 rfl (fun x98 ex98 => ?_)
                  have Nx98 : x98 = nI ((4 * up) + 2) := g_addN ex98 Nx96 rfl
                  refine G_dup2 C 100 dX11_turned_99 rfl rfl rfl ?_
                  refine G_iald (n := 24) C 101 (by decide) (eMk (by decide) _ _ _) (((4 * up) + 2)) Nx98 (by omega) (by decide) dX11_turned_100 rfl (fun x100 ex100 => ?_)
                  have Sx100 : x100 = (g_up P 4 up (P 4 up ^^^ ((1 : Int32) <<< (nI k &&& 31)))) 4 up := ex100.trans (congrFun (congrFun i_2.1 4) up)
                  obtain ⟨mx100, hmx100, emx100⟩ := (mI_p i_2 (p := up) (by omega)).2.2
                  refine G_iconst (v := 1) C 102 dX11_turned_101 rfl rfl ?_
                  refine G_iload C 104 dX11_turned_102 rfl rfl ?_
                  refine G_ishl C 105 dX11_turned_104 rfl (fun x104 ex104 => ?_)
                  refine G_ixor C 106 dX11_turned_105 rfl (fun x105 ex105 => ?_)
                  refine G_iast (n := 24) C 107 (by decide) (fun σ => eMk (by decide) _ _ σ) (((4 * up) + 2)) Nx98 (by omega) (by decide) (Nat.le_refl _) dX11_turned_106 rfl (fun s106 es106 => ?_)
                  have fn_3 : Qn s s106 := Qn.tr fn_2 ((Qm.up es106 (by unfold mR; omega)).n)
                  have i_3 : mI TX nT n l P s106 := by have z := mI_up4 i_2 es106 (by rw [ex105, ex104, Ey, Sx100]; exact bt_xor1024 ⟨mx100, hmx100, emx100⟩ (bt_1024p (by omega))); rw [ex105, ex104, Ey, Sx100, g_up_sj, if_pos rfl, g_up2, y_xx, g_up_id] at z; exact z
                  refine G_iinc (w := 1) C 110 dX11_turned_107 rfl rfl rfl rfl (fun x107 ex107 => ?_)
                  have Nx107 : x107 = nI (k + 1) := g_addN ex107 Ey rfl
                  show GW SM E _ 110 [some (.ref (e_ad E 0)), some (.int t), some (.int p), some (.int 2), some (.int x2), some (.int x87), some (.int x107)] [] s106
                  refine G_goto C 44 dX11_turned_110 rfl ?_
                  exact ih44 (k + 1) x87 x107 s106 (g_cn (a := (k + 1)) Nx107 (by first | rfl | omega | (simp only [List.length_cons, List.length_drop]; done) | (simp only [List.length_cons, List.length_drop]; omega))) (by omega) (by rw [x_fit, if_neg (by rw [← hun]; exact c76), ex87, y_or0, hfi]) fn_3 i_3 (by omega)
                ·
                  refine G_iconst (v := 1) C 80 dX11_turned_79 rfl rfl ?_
                  refine G_iload C 82 dX11_turned_80 rfl rfl ?_
                  refine G_ishl C 83 dX11_turned_82 rfl (fun x82 ex82 => ?_)
                  refine G_goto C 87 dX11_turned_83 rfl ?_
                  refine G_ior C 88 dX11_turned_87 rfl (fun x87 ex87 => ?_)
                  refine G_istore (L' := [some (.ref (e_ad E 0)), some (.int t), some (.int p), some (.int 2), some (.int x2), some (.int x87), some (.int y)]) C 90 dX11_turned_88 rfl (Nat.le_of_ble_eq_true rfl) rfl rfl ?_
                  refine G_aload_n (i := 0) C 91 dX11_turned_90 rfl rfl rfl ?_
                  refine X11_16g C 94 dX11_turned_91 rfl ?_
                  refine G_iconst (v := 4) C 95 dX11_turned_94 rfl rfl ?_
                  refine G_iload_n (i := 2) C 96 dX11_turned_95 rfl rfl rfl ?_
                  refine G_imul C 97 dX11_turned_96 rfl (fun x96 ex96 => ?_)
                  have Nx96 : x96 = nI (4 * up) := g_mulN ex96 rfl eup
                  refine G_iload_n (i := 3) C 98 dX11_turned_97 rfl rfl rfl ?_
                  refine G_iadd C 99 dX11_turned_98 rfl (fun x98 ex98 => ?_)
                  have Nx98 : x98 = nI ((4 * up) + 2) := g_addN ex98 Nx96 rfl
                  refine G_dup2 C 100 dX11_turned_99 rfl rfl rfl ?_
                  refine G_iald (n := 24) C 101 (by decide) (eMk (by decide) _ _ _) (((4 * up) + 2)) Nx98 (by omega) (by decide) dX11_turned_100 rfl (fun x100 ex100 => ?_)
                  have Sx100 : x100 = (g_up P 4 up (P 4 up ^^^ ((1 : Int32) <<< (nI k &&& 31)))) 4 up := ex100.trans (congrFun (congrFun i_2.1 4) up)
                  obtain ⟨mx100, hmx100, emx100⟩ := (mI_p i_2 (p := up) (by omega)).2.2
                  refine G_iconst (v := 1) C 102 dX11_turned_101 rfl rfl ?_
                  refine G_iload C 104 dX11_turned_102 rfl rfl ?_
                  refine G_ishl C 105 dX11_turned_104 rfl (fun x104 ex104 => ?_)
                  refine G_ixor C 106 dX11_turned_105 rfl (fun x105 ex105 => ?_)
                  refine G_iast (n := 24) C 107 (by decide) (fun σ => eMk (by decide) _ _ σ) (((4 * up) + 2)) Nx98 (by omega) (by decide) (Nat.le_refl _) dX11_turned_106 rfl (fun s106 es106 => ?_)
                  have fn_3 : Qn s s106 := Qn.tr fn_2 ((Qm.up es106 (by unfold mR; omega)).n)
                  have i_3 : mI TX nT n l P s106 := by have z := mI_up4 i_2 es106 (by rw [ex105, ex104, Ey, Sx100]; exact bt_xor1024 ⟨mx100, hmx100, emx100⟩ (bt_1024p (by omega))); rw [ex105, ex104, Ey, Sx100, g_up_sj, if_pos rfl, g_up2, y_xx, g_up_id] at z; exact z
                  refine G_iinc (w := 1) C 110 dX11_turned_107 rfl rfl rfl rfl (fun x107 ex107 => ?_)
                  have Nx107 : x107 = nI (k + 1) := g_addN ex107 Ey rfl
                  show GW SM E _ 110 [some (.ref (e_ad E 0)), some (.int t), some (.int p), some (.int 2), some (.int x2), some (.int x87), some (.int x107)] [] s106
                  refine G_goto C 44 dX11_turned_110 rfl ?_
                  exact ih44 (k + 1) x87 x107 s106 (g_cn (a := (k + 1)) Nx107 (by first | rfl | omega | (simp only [List.length_cons, List.length_drop]; done) | (simp only [List.length_cons, List.length_drop]; omega))) (by omega) (by rw [x_fit, if_pos (hun.symm.trans c76), ex87, ex82, Ey, hfi]) fn_3 i_3 (by omega)
          exact L44 (10 + 1) 0 0 0 s (g_cn (a := 0) rfl (by first | rfl | omega)) (by omega) (rfl) fn i (by omega)
      ·
        have k32 := h29.symm.trans c32
        refine G_bipush (v := (-7)) C 37 dX11_turned_35 rfl rfl ?_
        exact G_iret C dX11_turned_37 (⟨⟨nT, n, l, hR⟩, by unfold s_turn; rw [if_pos k9, hxn, if_neg k20, if_pos k32]⟩)
    ·
      have k20 := h17.symm.trans c20
      refine G_bipush (v := (-5)) C 25 dX11_turned_23 rfl rfl ?_
      exact G_iret C dX11_turned_25 (⟨⟨nT, n, l, hR⟩, by unfold s_turn; rw [if_pos k9, hxn, if_pos k20]⟩)
  ·
    have k9 := g_neT h2 c9
    refine G_iload C 14 dX11_turned_12 rfl rfl ?_
    exact G_iret C dX11_turned_14 (⟨⟨nT, n, l, hR⟩, by unfold s_turn; rw [if_neg k9]; exact h2⟩)
theorem dX11_evils_0 : decode cX11_evils 0 = .ok (.aload_n 0, 1) := by decide +kernel
theorem dX11_evils_1 : decode cX11_evils 1 = .ok (.iload_n 1, 1) := by decide +kernel
theorem dX11_evils_2 : decode cX11_evils 2 = .ok (.invokevirtual 245, 3) := by decide +kernel
theorem dX11_evils_5 : decode cX11_evils 5 = .ok (.istore 4, 2) := by decide +kernel
theorem dX11_evils_7 : decode cX11_evils 7 = .ok (.iload 4, 2) := by decide +kernel
theorem dX11_evils_9 : decode cX11_evils 9 = .ok (.ifCond .eq 6, 3) := by decide +kernel
theorem dX11_evils_12 : decode cX11_evils 12 = .ok (.iload 4, 2) := by decide +kernel
theorem dX11_evils_14 : decode cX11_evils 14 = .ok (.ireturn, 1) := by decide +kernel
theorem dX11_evils_15 : decode cX11_evils 15 = .ok (.iload_n 2, 1) := by decide +kernel
theorem dX11_evils_16 : decode cX11_evils 16 = .ok (.invokestatic 230, 3) := by decide +kernel
theorem dX11_evils_19 : decode cX11_evils 19 = .ok (.ifCond .ne 6, 3) := by decide +kernel
theorem dX11_evils_22 : decode cX11_evils 22 = .ok (.bipush (-5), 2) := by decide +kernel
theorem dX11_evils_24 : decode cX11_evils 24 = .ok (.ireturn, 1) := by decide +kernel
theorem dX11_evils_25 : decode cX11_evils 25 = .ok (.iload_n 3, 1) := by decide +kernel
theorem dX11_evils_26 : decode cX11_evils 26 = .ok (.iconst 0, 1) := by decide +kernel
theorem dX11_evils_27 : decode cX11_evils 27 = .ok (.iconst 1, 1) := by decide +kernel
theorem dX11_evils_28 : decode cX11_evils 28 = .ok (.invokestatic 78, 3) := by decide +kernel
theorem dX11_evils_31 : decode cX11_evils 31 = .ok (.ifCond .ne 6, 3) := by decide +kernel
theorem dX11_evils_34 : decode cX11_evils 34 = .ok (.bipush (-7), 2) := by decide +kernel
theorem dX11_evils_36 : decode cX11_evils 36 = .ok (.ireturn, 1) := by decide +kernel
theorem dX11_evils_37 : decode cX11_evils 37 = .ok (.aload_n 0, 1) := by decide +kernel
theorem dX11_evils_38 : decode cX11_evils 38 = .ok (.getfield 19, 3) := by decide +kernel
theorem dX11_evils_41 : decode cX11_evils 41 = .ok (.iconst 3, 1) := by decide +kernel
theorem dX11_evils_42 : decode cX11_evils 42 = .ok (.iload_n 2, 1) := by decide +kernel
theorem dX11_evils_43 : decode cX11_evils 43 = .ok (.iadd, 1) := by decide +kernel
theorem dX11_evils_44 : decode cX11_evils 44 = .ok (.iaload, 1) := by decide +kernel
theorem dX11_evils_45 : decode cX11_evils 45 = .ok (.istore 5, 2) := by decide +kernel
theorem dX11_evils_47 : decode cX11_evils 47 = .ok (.iconst 0, 1) := by decide +kernel
theorem dX11_evils_48 : decode cX11_evils 48 = .ok (.istore 6, 2) := by decide +kernel
theorem dX11_evils_50 : decode cX11_evils 50 = .ok (.iconst (-1), 1) := by decide +kernel
theorem dX11_evils_51 : decode cX11_evils 51 = .ok (.istore 7, 2) := by decide +kernel
theorem dX11_evils_53 : decode cX11_evils 53 = .ok (.iconst 0, 1) := by decide +kernel
theorem dX11_evils_54 : decode cX11_evils 54 = .ok (.istore 8, 2) := by decide +kernel
theorem dX11_evils_56 : decode cX11_evils 56 = .ok (.iload 8, 2) := by decide +kernel
theorem dX11_evils_58 : decode cX11_evils 58 = .ok (.bipush 99, 2) := by decide +kernel
theorem dX11_evils_60 : decode cX11_evils 60 = .ok (.if_icmp .gt 70, 3) := by decide +kernel
theorem dX11_evils_63 : decode cX11_evils 63 = .ok (.aload_n 0, 1) := by decide +kernel
theorem dX11_evils_64 : decode cX11_evils 64 = .ok (.getfield 19, 3) := by decide +kernel
theorem dX11_evils_67 : decode cX11_evils 67 = .ok (.iconst 3, 1) := by decide +kernel
theorem dX11_evils_68 : decode cX11_evils 68 = .ok (.iload_n 2, 1) := by decide +kernel
theorem dX11_evils_69 : decode cX11_evils 69 = .ok (.iadd, 1) := by decide +kernel
theorem dX11_evils_70 : decode cX11_evils 70 = .ok (.iload 8, 2) := by decide +kernel
theorem dX11_evils_72 : decode cX11_evils 72 = .ok (.iastore, 1) := by decide +kernel
theorem dX11_evils_73 : decode cX11_evils 73 = .ok (.aload_n 0, 1) := by decide +kernel
theorem dX11_evils_74 : decode cX11_evils 74 = .ok (.iload_n 1, 1) := by decide +kernel
theorem dX11_evils_75 : decode cX11_evils 75 = .ok (.invokevirtual 248, 3) := by decide +kernel
theorem dX11_evils_78 : decode cX11_evils 78 = .ok (.iconst (-1), 1) := by decide +kernel
theorem dX11_evils_79 : decode cX11_evils 79 = .ok (.if_icmp .ne 7, 3) := by decide +kernel
theorem dX11_evils_82 : decode cX11_evils 82 = .ok (.iconst 1, 1) := by decide +kernel
theorem dX11_evils_83 : decode cX11_evils 83 = .ok (.goto 4, 3) := by decide +kernel
theorem dX11_evils_86 : decode cX11_evils 86 = .ok (.iconst 0, 1) := by decide +kernel
theorem dX11_evils_87 : decode cX11_evils 87 = .ok (.istore 9, 2) := by decide +kernel
theorem dX11_evils_89 : decode cX11_evils 89 = .ok (.iload 6, 2) := by decide +kernel
theorem dX11_evils_91 : decode cX11_evils 91 = .ok (.iload 9, 2) := by decide +kernel
theorem dX11_evils_93 : decode cX11_evils 93 = .ok (.ifCond .eq 7, 3) := by decide +kernel
theorem dX11_evils_96 : decode cX11_evils 96 = .ok (.iconst 1, 1) := by decide +kernel
theorem dX11_evils_97 : decode cX11_evils 97 = .ok (.goto 4, 3) := by decide +kernel
theorem dX11_evils_100 : decode cX11_evils 100 = .ok (.iconst 0, 1) := by decide +kernel
theorem dX11_evils_101 : decode cX11_evils 101 = .ok (.iadd, 1) := by decide +kernel
theorem dX11_evils_102 : decode cX11_evils 102 = .ok (.istore 6, 2) := by decide +kernel
theorem dX11_evils_104 : decode cX11_evils 104 = .ok (.iload 9, 2) := by decide +kernel
theorem dX11_evils_106 : decode cX11_evils 106 = .ok (.ifCond .eq 14, 3) := by decide +kernel
theorem dX11_evils_109 : decode cX11_evils 109 = .ok (.iload 7, 2) := by decide +kernel
theorem dX11_evils_111 : decode cX11_evils 111 = .ok (.iconst (-1), 1) := by decide +kernel
theorem dX11_evils_112 : decode cX11_evils 112 = .ok (.if_icmp .ne 8, 3) := by decide +kernel
theorem dX11_evils_115 : decode cX11_evils 115 = .ok (.iload 8, 2) := by decide +kernel
theorem dX11_evils_117 : decode cX11_evils 117 = .ok (.goto 5, 3) := by decide +kernel
theorem dX11_evils_120 : decode cX11_evils 120 = .ok (.iload 7, 2) := by decide +kernel
theorem dX11_evils_122 : decode cX11_evils 122 = .ok (.istore 7, 2) := by decide +kernel
theorem dX11_evils_124 : decode cX11_evils 124 = .ok (.iinc 8 1, 3) := by decide +kernel
theorem dX11_evils_127 : decode cX11_evils 127 = .ok (.goto (-71), 3) := by decide +kernel
theorem dX11_evils_130 : decode cX11_evils 130 = .ok (.aload_n 0, 1) := by decide +kernel
theorem dX11_evils_131 : decode cX11_evils 131 = .ok (.getfield 19, 3) := by decide +kernel
theorem dX11_evils_134 : decode cX11_evils 134 = .ok (.iconst 3, 1) := by decide +kernel
theorem dX11_evils_135 : decode cX11_evils 135 = .ok (.iload_n 2, 1) := by decide +kernel
theorem dX11_evils_136 : decode cX11_evils 136 = .ok (.iadd, 1) := by decide +kernel
theorem dX11_evils_137 : decode cX11_evils 137 = .ok (.iload 5, 2) := by decide +kernel
theorem dX11_evils_139 : decode cX11_evils 139 = .ok (.iastore, 1) := by decide +kernel
theorem dX11_evils_140 : decode cX11_evils 140 = .ok (.iload_n 3, 1) := by decide +kernel
theorem dX11_evils_141 : decode cX11_evils 141 = .ok (.ifCond .ne 8, 3) := by decide +kernel
theorem dX11_evils_144 : decode cX11_evils 144 = .ok (.iload 6, 2) := by decide +kernel
theorem dX11_evils_146 : decode cX11_evils 146 = .ok (.goto 5, 3) := by decide +kernel
theorem dX11_evils_149 : decode cX11_evils 149 = .ok (.iload 7, 2) := by decide +kernel
theorem dX11_evils_151 : decode cX11_evils 151 = .ok (.ireturn, 1) := by decide +kernel
set_option maxHeartbeats 4000000 in
set_option maxRecDepth 100000 in
theorem c_X11_evils (d : Nat) (TX : gTX) (P B s : gS) (hR0 : RM TX P B s) (t w q : Int32) : gMt SM yX11_evils cX11_evils 10 (some .int) (d + 11) (fun ad => [.ref (ad 0), .int t, .int w, .int q]) s (gQi SM (fun r s' => RM TX P B s' ∧ r = s_evils TX P B t w q)) := by
  obtain ⟨nT, n, l, hR⟩ := hR0
  have hI := hR.1
  have hn6 : n ≤ 6 := hI.2.1.2.1
  have hl6 : l < 6 := mI_l6 hI
  have hxn : x_n P = n := x_nOf hI.2.1.1 hn6
  have hbI := hR.2.2
  have hnT6 : nT ≤ 6 := hI.2.1.2.2.2.2.1
  obtain ⟨tn0, htn0, etn0⟩ := hbI.2.1
  refine gMt_of SM_ok (by decide +kernel) (fun ad => [some (.ref (ad 0)), some (.int t), some (.int w), some (.int q), none, none, none, none, none, none]) (fun _ => rfl) (fun _ => rfl) (fun _ => Nat.le_of_ble_eq_true rfl) (fun E C0 => ?_)
  have C : gCx SM E RX11 cX11_evils 10 (some .int) (d + 11) := C0
  have fn : Qn s s := Qn.rf
  have i : mI TX nT n l P s := hI
  refine G_aload_n (i := 0) C 1 dX11_evils_0 rfl rfl rfl ?_
  refine G_iload_n (i := 1) C 2 dX11_evils_1 rfl rfl rfl ?_
  refine G_calli 5 (G_runV C Kc_X11_sheetWrong KV_X11_245 (by omega) (by decide) (eM _ _ _) rfl (c_X11_sheetWrong 0 TX P B s ⟨nT, n, l, hR⟩ t) rfl rfl rfl (Nat.le_of_ble_eq_true rfl) rfl dX11_evils_2) rfl (fun x2 s2 h2 => ?_)
  obtain ⟨es2, h2⟩ := h2
  have es2 := es2.symm
  subst es2
  refine G_istore (L' := [some (.ref (e_ad E 0)), some (.int t), some (.int w), some (.int q), some (.int x2), none, none, none, none, none]) C 7 dX11_evils_5 rfl (Nat.le_of_ble_eq_true rfl) rfl rfl ?_
  refine G_iload C 9 dX11_evils_7 rfl rfl ?_
  refine G_if_eq C 15 12 dX11_evils_9 rfl rfl (fun c9 => ?_) (fun c9 => ?_)
  ·
    have k9 := h2.symm.trans c9
    obtain ⟨ut, hut, eut, cut, z, hz20, ez⟩ := s_refI hbI.2.2.2.2.1 k9
    refine G_iload_n (i := 2) C 16 dX11_evils_15 rfl rfl rfl ?_
    refine G_calli 19 (G_runS C Kc_X11_isThing KS_X11_230 (by omega) (c_X11_isThing 0 w s) rfl rfl (Nat.le_of_ble_eq_true rfl) rfl dX11_evils_16) rfl (fun x16 s16 h16 => ?_)
    obtain ⟨es16, h16⟩ := h16
    have es16 := es16.symm
    subst es16
    refine G_if_ne C 25 22 dX11_evils_19 rfl rfl (fun c19 => ?_) (fun c19 => ?_)
    ·
      have k19 := g_neT h16 c19
      obtain ⟨uw, huw, euw⟩ := x_inR (b := 9) k19 rfl (by decide)
      have cuw : w.toNatClampNeg = uw := by rw [euw, nI_clamp (by omega)]
      refine G_iload_n (i := 3) C 26 dX11_evils_25 rfl rfl rfl ?_
      refine G_iconst (v := 0) C 27 dX11_evils_26 rfl rfl ?_
      refine G_iconst (v := 1) C 28 dX11_evils_27 rfl rfl ?_
      refine G_calli 31 (G_runS C Kc_X11_in KS_X11_78 (by omega) (c_X11_in 0 q 0 1 s) rfl rfl (Nat.le_of_ble_eq_true rfl) rfl dX11_evils_28) rfl (fun x28 s28 h28 => ?_)
      obtain ⟨es28, h28⟩ := h28
      have es28 := es28.symm
      subst es28
      refine G_if_ne C 37 34 dX11_evils_31 rfl rfl (fun c31 => ?_) (fun c31 => ?_)
      ·
        have k31 := g_neT h28 c31
        refine G_aload_n (i := 0) C 38 dX11_evils_37 rfl rfl rfl ?_
        refine X11_19g C 41 dX11_evils_38 rfl ?_
        refine G_iconst (v := 3) C 42 dX11_evils_41 rfl rfl ?_
        refine G_iload_n (i := 2) C 43 dX11_evils_42 rfl rfl rfl ?_
        refine G_iadd C 44 dX11_evils_43 rfl (fun x43 ex43 => ?_)
        have Nx43 : x43 = nI (3 + uw) := g_addN ex43 rfl euw
        refine G_iald (n := 13) C 45 (by decide) (eMk (by decide) _ _ _) ((3 + uw)) Nx43 (by omega) (by decide) dX11_evils_44 rfl (fun x44 ex44 => ?_)
        have Sx44 : x44 = P 1 uw := ex44.trans (congrFun (congrFun i.1 1) uw)
        refine G_istore (L' := [some (.ref (e_ad E 0)), some (.int t), some (.int w), some (.int q), some (.int x2), some (.int x44), none, none, none, none]) C 47 dX11_evils_45 rfl (Nat.le_of_ble_eq_true rfl) rfl rfl ?_
        refine G_iconst (v := 0) C 48 dX11_evils_47 rfl rfl ?_
        refine G_istore (L' := [some (.ref (e_ad E 0)), some (.int t), some (.int w), some (.int q), some (.int x2), some (.int x44), some (.int 0), none, none, none]) C 50 dX11_evils_48 rfl (Nat.le_of_ble_eq_true rfl) rfl rfl ?_
        refine G_iconst (v := (-1)) C 51 dX11_evils_50 rfl rfl ?_
        refine G_istore (L' := [some (.ref (e_ad E 0)), some (.int t), some (.int w), some (.int q), some (.int x2), some (.int x44), some (.int 0), some (.int (-1)), none, none]) C 53 dX11_evils_51 rfl (Nat.le_of_ble_eq_true rfl) rfl rfl ?_
        refine G_iconst (v := 0) C 54 dX11_evils_53 rfl rfl ?_
        refine G_istore (L' := [some (.ref (e_ad E 0)), some (.int t), some (.int w), some (.int q), some (.int x2), some (.int x44), some (.int 0), some (.int (-1)), some (.int 0), none]) C 56 dX11_evils_54 rfl (Nat.le_of_ble_eq_true rfl) rfl rfl ?_
        have L56 : ∀ (f56 : Nat) (k : Nat) (v : Int32) (ma le y : Int32) (sl56 : gS) (Ey : y = nI k) (hk : k ≤ 100) (hma : ma + x_evm TX B ut (fun v => g_up P 1 uw (nI v)) (100 - k) k = x_evm TX B ut (fun v => g_up P 1 uw (nI v)) 100 0) (hle : (le = -1 ∧ x_evl TX B ut (fun v => g_up P 1 uw (nI v)) 100 0 = x_evl TX B ut (fun v => g_up P 1 uw (nI v)) (100 - k) k) ∨ (¬ le = -1 ∧ x_evl TX B ut (fun v => g_up P 1 uw (nI v)) 100 0 = le)) (fnl56 : Qn s sl56) (il56 : mI TX nT n l (g_up P 1 uw v) sl56), 100 < k + f56 → GW SM E (gFin SM E (gQi SM (fun r s' => RM TX P B s' ∧ r = s_evils TX P B t w q))) 56 [some (.ref (e_ad E 0)), some (.int t), some (.int w), some (.int q), some (.int x2), some (.int x44), some (.int ma), some (.int le), some (.int y), none] [] sl56 := by
          intro f56
          induction f56 with
          | zero =>
            intro k v ma le y sl56 Ey hk hma hle fnl56 il56 hf56
            exact absurd hf56 (by omega)
          | succ f56 ih56 =>
            intro k v ma le y sl56 Ey hk hma hle fnl56 il56 hf56
            refine G_iload C 58 dX11_evils_56 rfl rfl ?_
            refine G_bipush (v := 99) C 60 dX11_evils_58 rfl rfl ?_
            refine G_icmp_gt C 130 63 dX11_evils_60 rfl rfl (fun c60 => ?_) (fun c60 => ?_)
            ·
              have n60 : 99 < k := (g_ltN (a := 99) (b := k) (hx := rfl) (hy := Ey) (by omega) (by omega)).mp c60
              refine G_aload_n (i := 0) C 131 dX11_evils_130 rfl rfl rfl ?_
              refine X11_19g C 134 dX11_evils_131 rfl ?_
              refine G_iconst (v := 3) C 135 dX11_evils_134 rfl rfl ?_
              refine G_iload_n (i := 2) C 136 dX11_evils_135 rfl rfl rfl ?_
              refine G_iadd C 137 dX11_evils_136 rfl (fun x136 ex136 => ?_)
              have Nx136 : x136 = nI (3 + uw) := g_addN ex136 rfl euw
              refine G_iload C 139 dX11_evils_137 rfl rfl ?_
              refine G_iast (n := 13) C 140 (by decide) (fun σ => eMk (by decide) _ _ σ) ((3 + uw)) Nx136 (by omega) (by decide) (Nat.le_refl _) dX11_evils_139 rfl (fun s139 es139 => ?_)
              have fn_1 : Qn s s139 := Qn.tr fnl56 ((Qm.up es139 (by unfold mR; omega)).n)
              have i_1 : mI TX nT n l P s139 := by have z := mI_up1 il56 es139; rw [g_up2, Sx44, g_up_id] at z; exact z
              refine G_iload_n (i := 3) C 141 dX11_evils_140 rfl rfl rfl ?_
              refine G_if_ne C 149 144 dX11_evils_141 rfl rfl (fun c141 => ?_) (fun c141 => ?_)
              ·
                refine G_iload C 151 dX11_evils_149 rfl rfl ?_
                exact G_iret C dX11_evils_151 (⟨RM_i hR i_1 fn_1, by
                    unfold s_evils; rw [if_pos k9, if_neg k19, if_neg k31, cut, cuw, if_neg c141]; exact (by
                      rcases hle with ⟨w1, w2⟩ | ⟨w1, w2⟩
                      · rw [w1, w2, show 100 - k = 0 by omega]; rfl
                      · exact w2.symm)⟩)
              ·
                refine G_iload C 146 dX11_evils_144 rfl rfl ?_
                refine G_goto C 151 dX11_evils_146 rfl ?_
                exact G_iret C dX11_evils_151 (⟨RM_i hR i_1 fn_1, by
                    unfold s_evils; rw [if_pos k9, if_neg k19, if_neg k31, cut, cuw, if_pos c141]; exact (by
                      have z := hma
                      rw [show 100 - k = 0 by omega] at z
                      rw [← z]
                      exact (Int32.add_zero _).symm)⟩)
            ·
              have n60 : ¬ 99 < k := fun h => c60 ((g_ltN (a := 99) (b := k) (hx := rfl) (hy := Ey) (by omega) (by omega)).mpr h)
              refine G_aload_n (i := 0) C 64 dX11_evils_63 rfl rfl rfl ?_
              refine X11_19g C 67 dX11_evils_64 rfl ?_
              refine G_iconst (v := 3) C 68 dX11_evils_67 rfl rfl ?_
              refine G_iload_n (i := 2) C 69 dX11_evils_68 rfl rfl rfl ?_
              refine G_iadd C 70 dX11_evils_69 rfl (fun x69 ex69 => ?_)
              have Nx69 : x69 = nI (3 + uw) := g_addN ex69 rfl euw
              refine G_iload C 72 dX11_evils_70 rfl rfl ?_
              refine G_iast (n := 13) C 73 (by decide) (fun σ => eMk (by decide) _ _ σ) ((3 + uw)) Nx69 (by omega) (by decide) (Nat.le_refl _) dX11_evils_72 rfl (fun s72 es72 => ?_)
              have fn_1 : Qn s s72 := Qn.tr fnl56 ((Qm.up es72 (by unfold mR; omega)).n)
              have i_1 : mI TX nT n l (g_up P 1 uw (nI k)) s72 := by have z := mI_up1 il56 es72; rw [g_up2, Ey] at z; exact z
              refine G_aload_n (i := 0) C 74 dX11_evils_73 rfl rfl rfl ?_
              refine G_iload_n (i := 1) C 75 dX11_evils_74 rfl rfl rfl ?_
              refine G_calli 78 (G_runV C Kc_X11_unlike KV_X11_248 (by omega) (by decide) (eM _ _ _) rfl (c_X11_unlike 0 TX nT n l (g_up P 1 uw (nI k)) s72 i_1 t ut eut hut z hz20 (B (4 + ut)) ((congrFun (fn_1.c (by omega) (by omega)) ut).trans ((mB_sz hR.2.1 hut).trans ez)) (fun j hj => (congrFun (fn_1.c (by omega) (by omega)) _).trans (mB_nu hR.2.1 hut hj))) rfl rfl rfl (Nat.le_of_ble_eq_true rfl) rfl dX11_evils_75) rfl (fun x75 s75 h75 => ?_)
              have fn_2 : Qn s s75 := Qn.tr fn_1 (h75.1.KR)
              have i_2 : mI TX nT n l (g_up P 1 uw (nI k)) s75 := h75.2.1
              have hun : x75 = x_un TX B ut (g_up P 1 uw (nI k)) := by unfold x_un; rw [ez, nI_clamp (by omega)]; exact h75.2.2
              refine G_iconst (v := (-1)) C 79 dX11_evils_78 rfl rfl ?_
              refine G_icmp_ne C 86 82 dX11_evils_79 rfl rfl (fun c79 => ?_) (fun c79 => ?_)
              ·
                refine G_iconst (v := 0) C 87 dX11_evils_86 rfl rfl ?_
                refine G_istore (L' := [some (.ref (e_ad E 0)), some (.int t), some (.int w), some (.int q), some (.int x2), some (.int x44), some (.int ma), some (.int le), some (.int y), some (.int 0)]) C 89 dX11_evils_87 rfl (Nat.le_of_ble_eq_true rfl) rfl rfl ?_
                refine G_iload C 91 dX11_evils_89 rfl rfl ?_
                refine G_iload C 93 dX11_evils_91 rfl rfl ?_
                refine G_if_eq C 100 96 dX11_evils_93 rfl rfl (fun _ => ?_) (fun c => absurd c (by decide))
                refine G_iconst (v := 0) C 101 dX11_evils_100 rfl rfl ?_
                refine G_iadd C 102 dX11_evils_101 rfl (fun x101 ex101 => ?_)
                refine G_istore (L' := [some (.ref (e_ad E 0)), some (.int t), some (.int w), some (.int q), some (.int x2), some (.int x44), some (.int x101), some (.int le), some (.int y), some (.int 0)]) C 104 dX11_evils_102 rfl (Nat.le_of_ble_eq_true rfl) rfl rfl ?_
                refine G_iload C 106 dX11_evils_104 rfl rfl ?_
                refine G_if_eq C 120 109 dX11_evils_106 rfl rfl (fun _ => ?_) (fun c => absurd c (by decide))
                refine G_iload C 122 dX11_evils_120 rfl rfl ?_
                refine G_istore (L' := [some (.ref (e_ad E 0)), some (.int t), some (.int w), some (.int q), some (.int x2), some (.int x44), some (.int x101), some (.int le), some (.int y), some (.int 0)]) C 124 dX11_evils_122 rfl (Nat.le_of_ble_eq_true rfl) rfl rfl ?_
                refine G_iinc (w := 1) C 127 dX11_evils_124 rfl rfl rfl rfl (fun x124 ex124 => ?_)
                have Nx124 : x124 = nI (k + 1) := g_addN ex124 Ey rfl
                show GW SM E _ 127 [some (.ref (e_ad E 0)), some (.int t), some (.int w), some (.int q), some (.int x2), some (.int x44), some (.int x101), some (.int le), some (.int x124), some (.int 0)] [] s75
                refine G_goto C 56 dX11_evils_127 rfl ?_
                refine G_drop (L' := [some (.ref (e_ad E 0)), some (.int t), some (.int w), some (.int q), some (.int x2), some (.int x44), some (.int x101), some (.int le), some (.int x124), none]) ⟨rfl, rfl, rfl, rfl, rfl, rfl, rfl, rfl, rfl, trivial⟩ ?_
                exact ih56 (k + 1) (nI k) x101 le x124 s75 (g_cn (a := (k + 1)) Nx124 (by first | rfl | omega | (simp only [List.length_cons, List.length_drop]; done) | (simp only [List.length_cons, List.length_drop]; omega))) (by omega) (by rw [← hma, show 100 - k = (100 - (k + 1)) + 1 by omega, x_evm, if_neg (by rw [← hun]; exact c79), ex101, Int32.add_zero]) (by
                      rcases hle with ⟨w1, w2⟩ | ⟨w1, w2⟩
                      · exact Or.inl ⟨w1, by rw [w2, show 100 - k = (100 - (k + 1)) + 1 by omega, x_evl, if_neg (by rw [← hun]; exact c79)]⟩
                      · exact Or.inr ⟨w1, w2⟩) fn_2 (i_2) (by omega)
              ·
                refine G_iconst (v := 1) C 83 dX11_evils_82 rfl rfl ?_
                refine G_goto C 87 dX11_evils_83 rfl ?_
                refine G_istore (L' := [some (.ref (e_ad E 0)), some (.int t), some (.int w), some (.int q), some (.int x2), some (.int x44), some (.int ma), some (.int le), some (.int y), some (.int 1)]) C 89 dX11_evils_87 rfl (Nat.le_of_ble_eq_true rfl) rfl rfl ?_
                refine G_iload C 91 dX11_evils_89 rfl rfl ?_
                refine G_iload C 93 dX11_evils_91 rfl rfl ?_
                refine G_if_eq C 100 96 dX11_evils_93 rfl rfl (fun c => absurd c (by decide)) (fun _ => ?_)
                refine G_iconst (v := 1) C 97 dX11_evils_96 rfl rfl ?_
                refine G_goto C 101 dX11_evils_97 rfl ?_
                refine G_iadd C 102 dX11_evils_101 rfl (fun x101 ex101 => ?_)
                refine G_istore (L' := [some (.ref (e_ad E 0)), some (.int t), some (.int w), some (.int q), some (.int x2), some (.int x44), some (.int x101), some (.int le), some (.int y), some (.int 1)]) C 104 dX11_evils_102 rfl (Nat.le_of_ble_eq_true rfl) rfl rfl ?_
                refine G_iload C 106 dX11_evils_104 rfl rfl ?_
                refine G_if_eq C 120 109 dX11_evils_106 rfl rfl (fun c => absurd c (by decide)) (fun _ => ?_)
                refine G_iload C 111 dX11_evils_109 rfl rfl ?_
                refine G_iconst (v := (-1)) C 112 dX11_evils_111 rfl rfl ?_
                refine G_icmp_ne C 120 115 dX11_evils_112 rfl rfl (fun c112 => ?_) (fun c112 => ?_)
                ·
                  refine G_iload C 122 dX11_evils_120 rfl rfl ?_
                  refine G_istore (L' := [some (.ref (e_ad E 0)), some (.int t), some (.int w), some (.int q), some (.int x2), some (.int x44), some (.int x101), some (.int le), some (.int y), some (.int 1)]) C 124 dX11_evils_122 rfl (Nat.le_of_ble_eq_true rfl) rfl rfl ?_
                  refine G_iinc (w := 1) C 127 dX11_evils_124 rfl rfl rfl rfl (fun x124 ex124 => ?_)
                  have Nx124 : x124 = nI (k + 1) := g_addN ex124 Ey rfl
                  show GW SM E _ 127 [some (.ref (e_ad E 0)), some (.int t), some (.int w), some (.int q), some (.int x2), some (.int x44), some (.int x101), some (.int le), some (.int x124), some (.int 1)] [] s75
                  refine G_goto C 56 dX11_evils_127 rfl ?_
                  refine G_drop (L' := [some (.ref (e_ad E 0)), some (.int t), some (.int w), some (.int q), some (.int x2), some (.int x44), some (.int x101), some (.int le), some (.int x124), none]) ⟨rfl, rfl, rfl, rfl, rfl, rfl, rfl, rfl, rfl, trivial⟩ ?_
                  exact ih56 (k + 1) (nI k) x101 le x124 s75 (g_cn (a := (k + 1)) Nx124 (by first | rfl | omega | (simp only [List.length_cons, List.length_drop]; done) | (simp only [List.length_cons, List.length_drop]; omega))) (by omega) (by rw [← hma, show 100 - k = (100 - (k + 1)) + 1 by omega, x_evm, if_pos (hun.symm.trans c79), ex101, Int32.add_assoc, Int32.add_comm 1]) (Or.inr ⟨c112, (hle.resolve_left (fun w => c112 w.1)).2⟩) fn_2 (i_2) (by omega)
                ·
                  refine G_iload C 117 dX11_evils_115 rfl rfl ?_
                  refine G_goto C 122 dX11_evils_117 rfl ?_
                  refine G_istore (L' := [some (.ref (e_ad E 0)), some (.int t), some (.int w), some (.int q), some (.int x2), some (.int x44), some (.int x101), some (.int y), some (.int y), some (.int 1)]) C 124 dX11_evils_122 rfl (Nat.le_of_ble_eq_true rfl) rfl rfl ?_
                  refine G_iinc (w := 1) C 127 dX11_evils_124 rfl rfl rfl rfl (fun x124 ex124 => ?_)
                  have Nx124 : x124 = nI (k + 1) := g_addN ex124 Ey rfl
                  show GW SM E _ 127 [some (.ref (e_ad E 0)), some (.int t), some (.int w), some (.int q), some (.int x2), some (.int x44), some (.int x101), some (.int y), some (.int x124), some (.int 1)] [] s75
                  refine G_goto C 56 dX11_evils_127 rfl ?_
                  refine G_drop (L' := [some (.ref (e_ad E 0)), some (.int t), some (.int w), some (.int q), some (.int x2), some (.int x44), some (.int x101), some (.int y), some (.int x124), none]) ⟨rfl, rfl, rfl, rfl, rfl, rfl, rfl, rfl, rfl, trivial⟩ ?_
                  exact ih56 (k + 1) (nI k) x101 y x124 s75 (g_cn (a := (k + 1)) Nx124 (by first | rfl | omega | (simp only [List.length_cons, List.length_drop]; done) | (simp only [List.length_cons, List.length_drop]; omega))) (by omega) (by rw [← hma, show 100 - k = (100 - (k + 1)) + 1 by omega, x_evm, if_pos (hun.symm.trans c79), ex101, Int32.add_assoc, Int32.add_comm 1]) (Or.inr ⟨by rw [Ey]; exact nI_nm1 (by omega), by rw [(hle.resolve_right (fun w => w.1 c112)).2, show 100 - k = (100 - (k + 1)) + 1 by omega, x_evl, if_pos (hun.symm.trans c79)]; exact Ey.symm⟩) fn_2 (i_2) (by omega)
        exact L56 (100 + 1) 0 (P 1 uw) 0 (-1) 0 s (g_cn (a := 0) rfl (by first | rfl | omega)) (by omega) (Int32.zero_add _) (Or.inl ⟨rfl, rfl⟩) fn (by rw [g_up_id]; exact i) (by omega)
      ·
        have k31 := h28.symm.trans c31
        refine G_bipush (v := (-7)) C 36 dX11_evils_34 rfl rfl ?_
        exact G_iret C dX11_evils_36 (⟨⟨nT, n, l, hR⟩, by unfold s_evils; rw [if_pos k9, if_neg k19, if_pos k31]⟩)
    ·
      have k19 := h16.symm.trans c19
      refine G_bipush (v := (-5)) C 24 dX11_evils_22 rfl rfl ?_
      exact G_iret C dX11_evils_24 (⟨⟨nT, n, l, hR⟩, by unfold s_evils; rw [if_pos k9, if_pos k19]⟩)
  ·
    have k9 := g_neT h2 c9
    refine G_iload C 14 dX11_evils_12 rfl rfl ?_
    exact G_iret C dX11_evils_14 (⟨⟨nT, n, l, hR⟩, by unfold s_evils; rw [if_neg k9]; exact h2⟩)
theorem dX11_laws_0 : decode cX11_laws 0 = .ok (.aload_n 0, 1) := by decide +kernel
theorem dX11_laws_1 : decode cX11_laws 1 = .ok (.iload_n 1, 1) := by decide +kernel
theorem dX11_laws_2 : decode cX11_laws 2 = .ok (.invokevirtual 245, 3) := by decide +kernel
theorem dX11_laws_5 : decode cX11_laws 5 = .ok (.istore_n 2, 1) := by decide +kernel
theorem dX11_laws_6 : decode cX11_laws 6 = .ok (.iload_n 2, 1) := by decide +kernel
theorem dX11_laws_7 : decode cX11_laws 7 = .ok (.ifCond .eq 5, 3) := by decide +kernel
theorem dX11_laws_10 : decode cX11_laws 10 = .ok (.iload_n 2, 1) := by decide +kernel
theorem dX11_laws_11 : decode cX11_laws 11 = .ok (.ireturn, 1) := by decide +kernel
theorem dX11_laws_12 : decode cX11_laws 12 = .ok (.aload_n 0, 1) := by decide +kernel
theorem dX11_laws_13 : decode cX11_laws 13 = .ok (.getfield 89, 3) := by decide +kernel
theorem dX11_laws_16 : decode cX11_laws 16 = .ok (.istore_n 3, 1) := by decide +kernel
theorem dX11_laws_17 : decode cX11_laws 17 = .ok (.iconst 0, 1) := by decide +kernel
theorem dX11_laws_18 : decode cX11_laws 18 = .ok (.istore 4, 2) := by decide +kernel
theorem dX11_laws_20 : decode cX11_laws 20 = .ok (.iconst 0, 1) := by decide +kernel
theorem dX11_laws_21 : decode cX11_laws 21 = .ok (.istore 5, 2) := by decide +kernel
theorem dX11_laws_23 : decode cX11_laws 23 = .ok (.iload 5, 2) := by decide +kernel
theorem dX11_laws_25 : decode cX11_laws 25 = .ok (.aload_n 0, 1) := by decide +kernel
theorem dX11_laws_26 : decode cX11_laws 26 = .ok (.getfield 86, 3) := by decide +kernel
theorem dX11_laws_29 : decode cX11_laws 29 = .ok (.if_icmp .ge 37, 3) := by decide +kernel
theorem dX11_laws_32 : decode cX11_laws 32 = .ok (.aload_n 0, 1) := by decide +kernel
theorem dX11_laws_33 : decode cX11_laws 33 = .ok (.iload 5, 2) := by decide +kernel
theorem dX11_laws_35 : decode cX11_laws 35 = .ok (.putfield 89, 3) := by decide +kernel
theorem dX11_laws_38 : decode cX11_laws 38 = .ok (.iload 4, 2) := by decide +kernel
theorem dX11_laws_40 : decode cX11_laws 40 = .ok (.aload_n 0, 1) := by decide +kernel
theorem dX11_laws_41 : decode cX11_laws 41 = .ok (.iload_n 1, 1) := by decide +kernel
theorem dX11_laws_42 : decode cX11_laws 42 = .ok (.invokevirtual 248, 3) := by decide +kernel
theorem dX11_laws_45 : decode cX11_laws 45 = .ok (.iconst (-1), 1) := by decide +kernel
theorem dX11_laws_46 : decode cX11_laws 46 = .ok (.if_icmp .ne 10, 3) := by decide +kernel
theorem dX11_laws_49 : decode cX11_laws 49 = .ok (.iconst 1, 1) := by decide +kernel
theorem dX11_laws_50 : decode cX11_laws 50 = .ok (.iload 5, 2) := by decide +kernel
theorem dX11_laws_52 : decode cX11_laws 52 = .ok (.ishl, 1) := by decide +kernel
theorem dX11_laws_53 : decode cX11_laws 53 = .ok (.goto 4, 3) := by decide +kernel
theorem dX11_laws_56 : decode cX11_laws 56 = .ok (.iconst 0, 1) := by decide +kernel
theorem dX11_laws_57 : decode cX11_laws 57 = .ok (.ior, 1) := by decide +kernel
theorem dX11_laws_58 : decode cX11_laws 58 = .ok (.istore 4, 2) := by decide +kernel
theorem dX11_laws_60 : decode cX11_laws 60 = .ok (.iinc 5 1, 3) := by decide +kernel
theorem dX11_laws_63 : decode cX11_laws 63 = .ok (.goto (-40), 3) := by decide +kernel
theorem dX11_laws_66 : decode cX11_laws 66 = .ok (.aload_n 0, 1) := by decide +kernel
theorem dX11_laws_67 : decode cX11_laws 67 = .ok (.iload_n 3, 1) := by decide +kernel
theorem dX11_laws_68 : decode cX11_laws 68 = .ok (.putfield 89, 3) := by decide +kernel
theorem dX11_laws_71 : decode cX11_laws 71 = .ok (.iload 4, 2) := by decide +kernel
theorem dX11_laws_73 : decode cX11_laws 73 = .ok (.ireturn, 1) := by decide +kernel
set_option maxHeartbeats 4000000 in
set_option maxRecDepth 100000 in
theorem c_X11_laws (d : Nat) (TX : gTX) (P B s : gS) (hR0 : RM TX P B s) (t : Int32) : gMt SM yX11_laws cX11_laws 6 (some .int) (d + 11) (fun ad => [.ref (ad 0), .int t]) s (gQi SM (fun r s' => RM TX P B s' ∧ r = s_laws TX P B t)) := by
  obtain ⟨nT, n, l, hR⟩ := hR0
  have hI := hR.1
  have hn6 : n ≤ 6 := hI.2.1.2.1
  have hl6 : l < 6 := mI_l6 hI
  have hxn : x_n P = n := x_nOf hI.2.1.1 hn6
  have hbI := hR.2.2
  have hnT6 : nT ≤ 6 := hI.2.1.2.2.2.2.1
  obtain ⟨tn0, htn0, etn0⟩ := hbI.2.1
  refine gMt_of SM_ok (by decide +kernel) (fun ad => [some (.ref (ad 0)), some (.int t), none, none, none, none]) (fun _ => rfl) (fun _ => rfl) (fun _ => Nat.le_of_ble_eq_true rfl) (fun E C0 => ?_)
  have C : gCx SM E RX11 cX11_laws 6 (some .int) (d + 11) := C0
  have fn : Qn s s := Qn.rf
  have i : mI TX nT n l P s := hI
  refine G_aload_n (i := 0) C 1 dX11_laws_0 rfl rfl rfl ?_
  refine G_iload_n (i := 1) C 2 dX11_laws_1 rfl rfl rfl ?_
  refine G_calli 5 (G_runV C Kc_X11_sheetWrong KV_X11_245 (by omega) (by decide) (eM _ _ _) rfl (c_X11_sheetWrong 0 TX P B s ⟨nT, n, l, hR⟩ t) rfl rfl rfl (Nat.le_of_ble_eq_true rfl) rfl dX11_laws_2) rfl (fun x2 s2 h2 => ?_)
  obtain ⟨es2, h2⟩ := h2
  have es2 := es2.symm
  subst es2
  refine G_istore_n (i := 2) (L' := [some (.ref (e_ad E 0)), some (.int t), some (.int x2), none, none, none]) C 6 dX11_laws_5 rfl rfl (Nat.le_of_ble_eq_true rfl) rfl rfl ?_
  refine G_iload_n (i := 2) C 7 dX11_laws_6 rfl rfl rfl ?_
  refine G_if_eq C 12 10 dX11_laws_7 rfl rfl (fun c7 => ?_) (fun c7 => ?_)
  ·
    have k7 := h2.symm.trans c7
    obtain ⟨ut, hut, eut, cut, z, hz20, ez⟩ := s_refI hbI.2.2.2.2.1 k7
    refine G_aload_n (i := 0) C 13 dX11_laws_12 rfl rfl rfl ?_
    refine X11_89g C 16 dX11_laws_13 rfl (fun x13 ex13 => ?_)
    have Sx13 : x13 = nI l := ex13.trans (mI_l i)
    refine G_istore_n (i := 3) (L' := [some (.ref (e_ad E 0)), some (.int t), some (.int x2), some (.int x13), none, none]) C 17 dX11_laws_16 rfl rfl (Nat.le_of_ble_eq_true rfl) rfl rfl ?_
    refine G_iconst (v := 0) C 18 dX11_laws_17 rfl rfl ?_
    refine G_istore (L' := [some (.ref (e_ad E 0)), some (.int t), some (.int x2), some (.int x13), some (.int 0), none]) C 20 dX11_laws_18 rfl (Nat.le_of_ble_eq_true rfl) rfl rfl ?_
    refine G_iconst (v := 0) C 21 dX11_laws_20 rfl rfl ?_
    refine G_istore (L' := [some (.ref (e_ad E 0)), some (.int t), some (.int x2), some (.int x13), some (.int 0), some (.int 0)]) C 23 dX11_laws_21 rfl (Nat.le_of_ble_eq_true rfl) rfl rfl ?_
    have L23 : ∀ (f23 : Nat) (k lw : Nat) (w : Int32) (fi y : Int32) (sl23 : gS) (Ey : y = nI k) (hk : k ≤ nT) (hfi : fi = x_fit TX B ut (fun v => g_up P 0 3 (nI v)) k) (fnl23 : Qn s sl23) (il23 : mI TX nT n lw (g_up P 0 3 w) sl23), nT < k + f23 → GW SM E (gFin SM E (gQi SM (fun r s' => RM TX P B s' ∧ r = s_laws TX P B t))) 23 [some (.ref (e_ad E 0)), some (.int t), some (.int x2), some (.int x13), some (.int fi), some (.int y)] [] sl23 := by
      intro f23
      induction f23 with
      | zero =>
        intro k lw w fi y sl23 Ey hk hfi fnl23 il23 hf23
        exact absurd hf23 (by omega)
      | succ f23 ih23 =>
        intro k lw w fi y sl23 Ey hk hfi fnl23 il23 hf23
        refine G_iload C 25 dX11_laws_23 rfl rfl ?_
        refine G_aload_n (i := 0) C 26 dX11_laws_25 rfl rfl rfl ?_
        refine X11_86g C 29 dX11_laws_26 rfl (fun x26 ex26 => ?_)
        have Sx26 : x26 = nI nT := ex26.trans ((fnl23.2 9 (by decide) (by decide) (by decide)).trans ((congrFun (congrFun hR.2.1 0) 0).trans hbI.1))
        refine G_icmp_ge C 66 32 dX11_laws_29 rfl rfl (fun c29 => ?_) (fun c29 => ?_)
        ·
          have n29 : ¬ k < nT := fun h => c29 ((g_ltN (a := k) (b := nT) (hx := Ey) (hy := Sx26) (by omega) (by omega)).mpr h)
          refine G_aload_n (i := 0) C 67 dX11_laws_66 rfl rfl rfl ?_
          refine G_iload_n (i := 3) C 68 dX11_laws_67 rfl rfl rfl ?_
          refine X11_89p C 71 dX11_laws_68 rfl (fun s68 es68 => ?_)
          have fn_1 : Qn s s68 := Qn.tr fnl23 (Qn.up0 es68 (by decide))
          have i_1 : mI TX nT n l P s68 := by have z := mI_lawU il23 es68 Sx13 hI.2.1.2.2.2.1; rw [g_up2, Sx13, ← hI.2.1.2.2.1, g_up_id] at z; exact z
          refine G_iload C 73 dX11_laws_71 rfl rfl ?_
          exact G_iret C dX11_laws_73 (⟨RM_i hR i_1 fn_1, by unfold s_laws; rw [if_pos k7, cut, hbI.1, nI_clamp (by omega), hfi, show k = nT by omega]⟩)
        ·
          have n29 : k < nT := (g_ltN (a := k) (b := nT) (hx := Ey) (hy := Sx26) (by omega) (by omega)).mp c29
          refine G_aload_n (i := 0) C 33 dX11_laws_32 rfl rfl rfl ?_
          refine G_iload C 35 dX11_laws_33 rfl rfl ?_
          refine X11_89p C 38 dX11_laws_35 rfl (fun s35 es35 => ?_)
          have fn_1 : Qn s s35 := Qn.tr fnl23 (Qn.up0 es35 (by decide))
          have i_1 : mI TX nT n k (g_up P 0 3 (nI k)) s35 := by have z := mI_lawU il23 es35 Ey (by omega); rw [g_up2, Ey] at z; exact z
          refine G_iload C 40 dX11_laws_38 rfl rfl ?_
          refine G_aload_n (i := 0) C 41 dX11_laws_40 rfl rfl rfl ?_
          refine G_iload_n (i := 1) C 42 dX11_laws_41 rfl rfl rfl ?_
          refine G_calli 45 (G_runV C Kc_X11_unlike KV_X11_248 (by omega) (by decide) (eM _ _ _) rfl (c_X11_unlike 0 TX nT n k (g_up P 0 3 (nI k)) s35 i_1 t ut eut hut z hz20 (B (4 + ut)) ((congrFun (fn_1.c (by omega) (by omega)) ut).trans ((mB_sz hR.2.1 hut).trans ez)) (fun j hj => (congrFun (fn_1.c (by omega) (by omega)) _).trans (mB_nu hR.2.1 hut hj))) rfl rfl rfl (Nat.le_of_ble_eq_true rfl) rfl dX11_laws_42) rfl (fun x42 s42 h42 => ?_)
          have fn_2 : Qn s s42 := Qn.tr fn_1 (h42.1.KR)
          have i_2 : mI TX nT n k (g_up P 0 3 (nI k)) s42 := h42.2.1
          have hun : x42 = x_un TX B ut (g_up P 0 3 (nI k)) := by unfold x_un; rw [ez, nI_clamp (by omega)]; exact h42.2.2
          refine G_iconst (v := (-1)) C 46 dX11_laws_45 rfl rfl ?_
          refine G_icmp_ne C 56 49 dX11_laws_46 rfl rfl (fun c46 => ?_) (fun c46 => ?_)
          ·
            refine G_iconst (v := 0) C 57 dX11_laws_56 rfl rfl ?_
            refine G_ior C 58 dX11_laws_57 rfl (fun x57 ex57 => ?_)
            refine G_istore (L' := [some (.ref (e_ad E 0)), some (.int t), some (.int x2), some (.int x13), some (.int x57), some (.int y)]) C 60 dX11_laws_58 rfl (Nat.le_of_ble_eq_true rfl) rfl rfl ?_
            refine G_iinc (w := 1) C 63 dX11_laws_60 rfl rfl rfl rfl (fun x60 ex60 => ?_)
            have Nx60 : x60 = nI (k + 1) := g_addN ex60 Ey rfl
            show GW SM E _ 63 [some (.ref (e_ad E 0)), some (.int t), some (.int x2), some (.int x13), some (.int x57), some (.int x60)] [] s42
            refine G_goto C 23 dX11_laws_63 rfl ?_
            exact ih23 (k + 1) k (nI k) x57 x60 s42 (g_cn (a := (k + 1)) Nx60 (by first | rfl | omega | (simp only [List.length_cons, List.length_drop]; done) | (simp only [List.length_cons, List.length_drop]; omega))) (by omega) (by rw [x_fit, if_neg (by rw [← hun]; exact c46), ex57, y_or0, hfi]) fn_2 (i_2) (by omega)
          ·
            refine G_iconst (v := 1) C 50 dX11_laws_49 rfl rfl ?_
            refine G_iload C 52 dX11_laws_50 rfl rfl ?_
            refine G_ishl C 53 dX11_laws_52 rfl (fun x52 ex52 => ?_)
            refine G_goto C 57 dX11_laws_53 rfl ?_
            refine G_ior C 58 dX11_laws_57 rfl (fun x57 ex57 => ?_)
            refine G_istore (L' := [some (.ref (e_ad E 0)), some (.int t), some (.int x2), some (.int x13), some (.int x57), some (.int y)]) C 60 dX11_laws_58 rfl (Nat.le_of_ble_eq_true rfl) rfl rfl ?_
            refine G_iinc (w := 1) C 63 dX11_laws_60 rfl rfl rfl rfl (fun x60 ex60 => ?_)
            have Nx60 : x60 = nI (k + 1) := g_addN ex60 Ey rfl
            show GW SM E _ 63 [some (.ref (e_ad E 0)), some (.int t), some (.int x2), some (.int x13), some (.int x57), some (.int x60)] [] s42
            refine G_goto C 23 dX11_laws_63 rfl ?_
            exact ih23 (k + 1) k (nI k) x57 x60 s42 (g_cn (a := (k + 1)) Nx60 (by first | rfl | omega | (simp only [List.length_cons, List.length_drop]; done) | (simp only [List.length_cons, List.length_drop]; omega))) (by omega) (by rw [x_fit, if_pos (hun.symm.trans c46), ex57, ex52, Ey, hfi]) fn_2 (i_2) (by omega)
    exact L23 (nT + 1) 0 l (P 0 3) 0 0 s (g_cn (a := 0) rfl (by first | rfl | omega)) (by omega) (rfl) fn (by rw [g_up_id]; exact i) (by omega)
  ·
    have k7 := g_neT h2 c7
    refine G_iload_n (i := 2) C 11 dX11_laws_10 rfl rfl rfl ?_
    exact G_iret C dX11_laws_11 (⟨⟨nT, n, l, hR⟩, by unfold s_laws; rw [if_neg k7]; exact h2⟩)
