theorem dX11_asksOf_0 : decode cX11_asksOf 0 = .ok (.aload_n 0, 1) := by decide +kernel
theorem dX11_asksOf_1 : decode cX11_asksOf 1 = .ok (.getfield 58, 3) := by decide +kernel
theorem dX11_asksOf_4 : decode cX11_asksOf 4 = .ok (.iconst 0, 1) := by decide +kernel
theorem dX11_asksOf_5 : decode cX11_asksOf 5 = .ok (.iconst 0, 1) := by decide +kernel
theorem dX11_asksOf_6 : decode cX11_asksOf 6 = .ok (.iastore, 1) := by decide +kernel
theorem dX11_asksOf_7 : decode cX11_asksOf 7 = .ok (.iload_n 3, 1) := by decide +kernel
theorem dX11_asksOf_8 : decode cX11_asksOf 8 = .ok (.iconst (-1), 1) := by decide +kernel
theorem dX11_asksOf_9 : decode cX11_asksOf 9 = .ok (.if_icmp .eq 17, 3) := by decide +kernel
theorem dX11_asksOf_12 : decode cX11_asksOf 12 = .ok (.aload_n 0, 1) := by decide +kernel
theorem dX11_asksOf_13 : decode cX11_asksOf 13 = .ok (.getfield 58, 3) := by decide +kernel
theorem dX11_asksOf_16 : decode cX11_asksOf 16 = .ok (.iconst 0, 1) := by decide +kernel
theorem dX11_asksOf_17 : decode cX11_asksOf 17 = .ok (.aload_n 0, 1) := by decide +kernel
theorem dX11_asksOf_18 : decode cX11_asksOf 18 = .ok (.getfield 19, 3) := by decide +kernel
theorem dX11_asksOf_21 : decode cX11_asksOf 21 = .ok (.iconst 3, 1) := by decide +kernel
theorem dX11_asksOf_22 : decode cX11_asksOf 22 = .ok (.iload_n 3, 1) := by decide +kernel
theorem dX11_asksOf_23 : decode cX11_asksOf 23 = .ok (.iadd, 1) := by decide +kernel
theorem dX11_asksOf_24 : decode cX11_asksOf 24 = .ok (.iaload, 1) := by decide +kernel
theorem dX11_asksOf_25 : decode cX11_asksOf 25 = .ok (.iastore, 1) := by decide +kernel
theorem dX11_asksOf_26 : decode cX11_asksOf 26 = .ok (.aload_n 0, 1) := by decide +kernel
theorem dX11_asksOf_27 : decode cX11_asksOf 27 = .ok (.getfield 58, 3) := by decide +kernel
theorem dX11_asksOf_30 : decode cX11_asksOf 30 = .ok (.iconst 1, 1) := by decide +kernel
theorem dX11_asksOf_31 : decode cX11_asksOf 31 = .ok (.aload_n 0, 1) := by decide +kernel
theorem dX11_asksOf_32 : decode cX11_asksOf 32 = .ok (.getfield 16, 3) := by decide +kernel
theorem dX11_asksOf_35 : decode cX11_asksOf 35 = .ok (.iconst 4, 1) := by decide +kernel
theorem dX11_asksOf_36 : decode cX11_asksOf 36 = .ok (.iload_n 2, 1) := by decide +kernel
theorem dX11_asksOf_37 : decode cX11_asksOf 37 = .ok (.imul, 1) := by decide +kernel
theorem dX11_asksOf_38 : decode cX11_asksOf 38 = .ok (.iaload, 1) := by decide +kernel
theorem dX11_asksOf_39 : decode cX11_asksOf 39 = .ok (.iastore, 1) := by decide +kernel
theorem dX11_asksOf_40 : decode cX11_asksOf 40 = .ok (.aload_n 0, 1) := by decide +kernel
theorem dX11_asksOf_41 : decode cX11_asksOf 41 = .ok (.getfield 58, 3) := by decide +kernel
theorem dX11_asksOf_44 : decode cX11_asksOf 44 = .ok (.iconst 2, 1) := by decide +kernel
theorem dX11_asksOf_45 : decode cX11_asksOf 45 = .ok (.aload_n 0, 1) := by decide +kernel
theorem dX11_asksOf_46 : decode cX11_asksOf 46 = .ok (.getfield 16, 3) := by decide +kernel
theorem dX11_asksOf_49 : decode cX11_asksOf 49 = .ok (.iconst 4, 1) := by decide +kernel
theorem dX11_asksOf_50 : decode cX11_asksOf 50 = .ok (.iload_n 2, 1) := by decide +kernel
theorem dX11_asksOf_51 : decode cX11_asksOf 51 = .ok (.imul, 1) := by decide +kernel
theorem dX11_asksOf_52 : decode cX11_asksOf 52 = .ok (.iconst 2, 1) := by decide +kernel
theorem dX11_asksOf_53 : decode cX11_asksOf 53 = .ok (.iadd, 1) := by decide +kernel
theorem dX11_asksOf_54 : decode cX11_asksOf 54 = .ok (.iaload, 1) := by decide +kernel
theorem dX11_asksOf_55 : decode cX11_asksOf 55 = .ok (.invokestatic 82, 3) := by decide +kernel
theorem dX11_asksOf_58 : decode cX11_asksOf 58 = .ok (.iastore, 1) := by decide +kernel
theorem dX11_asksOf_59 : decode cX11_asksOf 59 = .ok (.aload_n 0, 1) := by decide +kernel
theorem dX11_asksOf_60 : decode cX11_asksOf 60 = .ok (.getfield 58, 3) := by decide +kernel
theorem dX11_asksOf_63 : decode cX11_asksOf 63 = .ok (.iconst 3, 1) := by decide +kernel
theorem dX11_asksOf_64 : decode cX11_asksOf 64 = .ok (.aload_n 0, 1) := by decide +kernel
theorem dX11_asksOf_65 : decode cX11_asksOf 65 = .ok (.getfield 16, 3) := by decide +kernel
theorem dX11_asksOf_68 : decode cX11_asksOf 68 = .ok (.iconst 4, 1) := by decide +kernel
theorem dX11_asksOf_69 : decode cX11_asksOf 69 = .ok (.iload_n 2, 1) := by decide +kernel
theorem dX11_asksOf_70 : decode cX11_asksOf 70 = .ok (.imul, 1) := by decide +kernel
theorem dX11_asksOf_71 : decode cX11_asksOf 71 = .ok (.iconst 1, 1) := by decide +kernel
theorem dX11_asksOf_72 : decode cX11_asksOf 72 = .ok (.iadd, 1) := by decide +kernel
theorem dX11_asksOf_73 : decode cX11_asksOf 73 = .ok (.iaload, 1) := by decide +kernel
theorem dX11_asksOf_74 : decode cX11_asksOf 74 = .ok (.invokestatic 82, 3) := by decide +kernel
theorem dX11_asksOf_77 : decode cX11_asksOf 77 = .ok (.iastore, 1) := by decide +kernel
theorem dX11_asksOf_78 : decode cX11_asksOf 78 = .ok (.aload_n 0, 1) := by decide +kernel
theorem dX11_asksOf_79 : decode cX11_asksOf 79 = .ok (.getfield 58, 3) := by decide +kernel
theorem dX11_asksOf_82 : decode cX11_asksOf 82 = .ok (.iconst 4, 1) := by decide +kernel
theorem dX11_asksOf_83 : decode cX11_asksOf 83 = .ok (.aload_n 0, 1) := by decide +kernel
theorem dX11_asksOf_84 : decode cX11_asksOf 84 = .ok (.getfield 19, 3) := by decide +kernel
theorem dX11_asksOf_87 : decode cX11_asksOf 87 = .ok (.iconst 0, 1) := by decide +kernel
theorem dX11_asksOf_88 : decode cX11_asksOf 88 = .ok (.iaload, 1) := by decide +kernel
theorem dX11_asksOf_89 : decode cX11_asksOf 89 = .ok (.iastore, 1) := by decide +kernel
theorem dX11_asksOf_90 : decode cX11_asksOf 90 = .ok (.aload_n 0, 1) := by decide +kernel
theorem dX11_asksOf_91 : decode cX11_asksOf 91 = .ok (.getfield 58, 3) := by decide +kernel
theorem dX11_asksOf_94 : decode cX11_asksOf 94 = .ok (.iconst 5, 1) := by decide +kernel
theorem dX11_asksOf_95 : decode cX11_asksOf 95 = .ok (.aload_n 0, 1) := by decide +kernel
theorem dX11_asksOf_96 : decode cX11_asksOf 96 = .ok (.getfield 13, 3) := by decide +kernel
theorem dX11_asksOf_99 : decode cX11_asksOf 99 = .ok (.iload_n 2, 1) := by decide +kernel
theorem dX11_asksOf_100 : decode cX11_asksOf 100 = .ok (.iaload, 1) := by decide +kernel
theorem dX11_asksOf_101 : decode cX11_asksOf 101 = .ok (.iastore, 1) := by decide +kernel
theorem dX11_asksOf_102 : decode cX11_asksOf 102 = .ok (.aload_n 0, 1) := by decide +kernel
theorem dX11_asksOf_103 : decode cX11_asksOf 103 = .ok (.iload_n 1, 1) := by decide +kernel
theorem dX11_asksOf_104 : decode cX11_asksOf 104 = .ok (.invokevirtual 158, 3) := by decide +kernel
theorem dX11_asksOf_107 : decode cX11_asksOf 107 = .ok (.iload_n 1, 1) := by decide +kernel
theorem dX11_asksOf_108 : decode cX11_asksOf 108 = .ok (.iconst 2, 1) := by decide +kernel
theorem dX11_asksOf_109 : decode cX11_asksOf 109 = .ok (.if_icmp .ne 8, 3) := by decide +kernel
theorem dX11_asksOf_112 : decode cX11_asksOf 112 = .ok (.bipush (-99), 2) := by decide +kernel
theorem dX11_asksOf_114 : decode cX11_asksOf 114 = .ok (.goto 4, 3) := by decide +kernel
theorem dX11_asksOf_117 : decode cX11_asksOf 117 = .ok (.iconst 0, 1) := by decide +kernel
theorem dX11_asksOf_118 : decode cX11_asksOf 118 = .ok (.bipush 99, 2) := by decide +kernel
theorem dX11_asksOf_120 : decode cX11_asksOf 120 = .ok (.invokestatic 161, 3) := by decide +kernel
theorem dX11_asksOf_123 : decode cX11_asksOf 123 = .ok (.ireturn, 1) := by decide +kernel
set_option maxHeartbeats 4000000 in
set_option maxRecDepth 100000 in
theorem c_X11_asksOf (d : Nat) (TX : gTX) (nT n l : Nat) (P s : gS) (hI : mI TX nT n l P s) (pt : Int32) (j : Nat) (hpt : pt = nI j) (hj : j < 3) (x : Int32) (p : Nat) (hx : x = nI p) (hp : p < n) (t bad : Int32) (hb : (t = -1 ∧ bad = 0) ∨ ∃ tt, tt < 10 ∧ t = nI tt ∧ bad = P 1 tt) : gMt SM yX11_asksOf cX11_asksOf 4 (some .int) (d + 4) (fun ad => [.ref (ad 0), .int pt, .int x, .int t]) s (gQi SM (fun r s' => Fr mM s s' ∧ r = x_asks TX P j p bad)) := by
  have hn6 : n ≤ 6 := hI.2.1.2.1
  have hl6 : l < 6 := mI_l6 hI
  refine gMt_of SM_ok (by decide +kernel) (fun ad => [some (.ref (ad 0)), some (.int pt), some (.int x), some (.int t)]) (fun _ => rfl) (fun _ => rfl) (fun _ => Nat.le_of_ble_eq_true rfl) (fun E C0 => ?_)
  have C : gCx SM E RX11 cX11_asksOf 4 (some .int) (d + 4) := C0
  have i : mI TX nT n l P s := hI
  have f : Fr mM s s := Fr.rf
  refine G_aload_n (i := 0) C 1 dX11_asksOf_0 rfl rfl rfl ?_
  refine X11_58g C 4 dX11_asksOf_1 rfl ?_
  refine G_iconst (v := 0) C 5 dX11_asksOf_4 rfl rfl ?_
  refine G_iconst (v := 0) C 6 dX11_asksOf_5 rfl rfl ?_
  refine G_iast (n := 6) C 7 (by decide) (fun σ => eMk (by decide) _ _ σ) (0) rfl (by omega) (by decide) (Nat.le_refl _) dX11_asksOf_6 rfl (fun s6 es6 => ?_)
  have i_1 : mI TX nT n l P s6 := mI_fr i (Fr.up es6 mM_17)
  have f_1 : Fr mM s s6 := Fr.tr f (Fr.up es6 mM_17)
  refine G_iload_n (i := 3) C 8 dX11_asksOf_7 rfl rfl rfl ?_
  refine G_iconst (v := (-1)) C 9 dX11_asksOf_8 rfl rfl ?_
  refine G_icmp_eq C 26 12 dX11_asksOf_9 rfl rfl (fun c9 => ?_) (fun c9 => ?_)
  ·
    have hb0 : bad = 0 := by
      rcases hb with h | ⟨tt, h1, h2, h3⟩
      · exact h.2
      · exact absurd (h2.symm.trans c9) (by intro q; exact nI_pos (n := tt) (by omega) (by rw [q]; decide))
    refine G_aload_n (i := 0) C 27 dX11_asksOf_26 rfl rfl rfl ?_
    refine X11_58g C 30 dX11_asksOf_27 rfl ?_
    refine G_iconst (v := 1) C 31 dX11_asksOf_30 rfl rfl ?_
    refine G_aload_n (i := 0) C 32 dX11_asksOf_31 rfl rfl rfl ?_
    refine X11_16g C 35 dX11_asksOf_32 rfl ?_
    refine G_iconst (v := 4) C 36 dX11_asksOf_35 rfl rfl ?_
    refine G_iload_n (i := 2) C 37 dX11_asksOf_36 rfl rfl rfl ?_
    refine G_imul C 38 dX11_asksOf_37 rfl (fun x37 ex37 => ?_)
    have Nx37 : x37 = nI (4 * p) := g_mulN ex37 rfl hx
    refine G_iald (n := 24) C 39 (by decide) (eMk (by decide) _ _ _) ((4 * p)) Nx37 (by omega) (by decide) dX11_asksOf_38 rfl (fun x38 ex38 => ?_)
    have Sx38 : x38 = P 2 p := ex38.trans (congrFun (congrFun i_1.1 2) p)
    refine G_iast (n := 6) C 40 (by decide) (fun σ => eMk (by decide) _ _ σ) (1) rfl (by omega) (by decide) (Nat.le_refl _) dX11_asksOf_39 rfl (fun s39 es39 => ?_)
    have i_2 : mI TX nT n l P s39 := mI_fr i_1 (Fr.up es39 mM_17)
    have f_2 : Fr mM s s39 := Fr.tr f_1 (Fr.up es39 mM_17)
    refine G_aload_n (i := 0) C 41 dX11_asksOf_40 rfl rfl rfl ?_
    refine X11_58g C 44 dX11_asksOf_41 rfl ?_
    refine G_iconst (v := 2) C 45 dX11_asksOf_44 rfl rfl ?_
    refine G_aload_n (i := 0) C 46 dX11_asksOf_45 rfl rfl rfl ?_
    refine X11_16g C 49 dX11_asksOf_46 rfl ?_
    refine G_iconst (v := 4) C 50 dX11_asksOf_49 rfl rfl ?_
    refine G_iload_n (i := 2) C 51 dX11_asksOf_50 rfl rfl rfl ?_
    refine G_imul C 52 dX11_asksOf_51 rfl (fun x51 ex51 => ?_)
    have Nx51 : x51 = nI (4 * p) := g_mulN ex51 rfl hx
    refine G_iconst (v := 2) C 53 dX11_asksOf_52 rfl rfl ?_
    refine G_iadd C 54 dX11_asksOf_53 rfl (fun x53 ex53 => ?_)
    have Nx53 : x53 = nI ((4 * p) + 2) := g_addN ex53 Nx51 rfl
    refine G_iald (n := 24) C 55 (by decide) (eMk (by decide) _ _ _) (((4 * p) + 2)) Nx53 (by omega) (by decide) dX11_asksOf_54 rfl (fun x54 ex54 => ?_)
    have Sx54 : x54 = P 4 p := ex54.trans (congrFun (congrFun i_2.1 4) p)
    obtain ⟨mx54, hmx54, emx54⟩ := (mI_p i_2 (p := p) (by omega)).2.2
    refine G_calli 58 (G_runS C Kc_X11_onesOf KS_X11_82 (by omega) (c_X11_onesOf 0 x54 s39) rfl rfl (Nat.le_of_ble_eq_true rfl) rfl dX11_asksOf_55) rfl (fun x55 s55 h55 => ?_)
    obtain ⟨es55, h55⟩ := h55
    have es55 := es55.symm
    subst es55
    refine G_iast (n := 6) C 59 (by decide) (fun σ => eMk (by decide) _ _ σ) (2) rfl (by omega) (by decide) (Nat.le_refl _) dX11_asksOf_58 rfl (fun s58 es58 => ?_)
    have i_3 : mI TX nT n l P s58 := mI_fr i_2 (Fr.up es58 mM_17)
    have f_3 : Fr mM s s58 := Fr.tr f_2 (Fr.up es58 mM_17)
    refine G_aload_n (i := 0) C 60 dX11_asksOf_59 rfl rfl rfl ?_
    refine X11_58g C 63 dX11_asksOf_60 rfl ?_
    refine G_iconst (v := 3) C 64 dX11_asksOf_63 rfl rfl ?_
    refine G_aload_n (i := 0) C 65 dX11_asksOf_64 rfl rfl rfl ?_
    refine X11_16g C 68 dX11_asksOf_65 rfl ?_
    refine G_iconst (v := 4) C 69 dX11_asksOf_68 rfl rfl ?_
    refine G_iload_n (i := 2) C 70 dX11_asksOf_69 rfl rfl rfl ?_
    refine G_imul C 71 dX11_asksOf_70 rfl (fun x70 ex70 => ?_)
    have Nx70 : x70 = nI (4 * p) := g_mulN ex70 rfl hx
    refine G_iconst (v := 1) C 72 dX11_asksOf_71 rfl rfl ?_
    refine G_iadd C 73 dX11_asksOf_72 rfl (fun x72 ex72 => ?_)
    have Nx72 : x72 = nI ((4 * p) + 1) := g_addN ex72 Nx70 rfl
    refine G_iald (n := 24) C 74 (by decide) (eMk (by decide) _ _ _) (((4 * p) + 1)) Nx72 (by omega) (by decide) dX11_asksOf_73 rfl (fun x73 ex73 => ?_)
    have Sx73 : x73 = P 3 p := ex73.trans (congrFun (congrFun i_3.1 3) p)
    obtain ⟨mx73, hmx73, emx73⟩ := (mI_p i_3 (p := p) (by omega)).2.1
    refine G_calli 77 (G_runS C Kc_X11_onesOf KS_X11_82 (by omega) (c_X11_onesOf 0 x73 s58) rfl rfl (Nat.le_of_ble_eq_true rfl) rfl dX11_asksOf_74) rfl (fun x74 s74 h74 => ?_)
    obtain ⟨es74, h74⟩ := h74
    have es74 := es74.symm
    subst es74
    refine G_iast (n := 6) C 78 (by decide) (fun σ => eMk (by decide) _ _ σ) (3) rfl (by omega) (by decide) (Nat.le_refl _) dX11_asksOf_77 rfl (fun s77 es77 => ?_)
    have i_4 : mI TX nT n l P s77 := mI_fr i_3 (Fr.up es77 mM_17)
    have f_4 : Fr mM s s77 := Fr.tr f_3 (Fr.up es77 mM_17)
    refine G_aload_n (i := 0) C 79 dX11_asksOf_78 rfl rfl rfl ?_
    refine X11_58g C 82 dX11_asksOf_79 rfl ?_
    refine G_iconst (v := 4) C 83 dX11_asksOf_82 rfl rfl ?_
    refine G_aload_n (i := 0) C 84 dX11_asksOf_83 rfl rfl rfl ?_
    refine X11_19g C 87 dX11_asksOf_84 rfl ?_
    refine G_iconst (v := 0) C 88 dX11_asksOf_87 rfl rfl ?_
    refine G_iald (n := 13) C 89 (by decide) (eMk (by decide) _ _ _) (0) rfl (by omega) (by decide) dX11_asksOf_88 rfl (fun x88 ex88 => ?_)
    have Sx88 : x88 = P 0 0 := ex88.trans (mI_v i_4 0 0)
    refine G_iast (n := 6) C 90 (by decide) (fun σ => eMk (by decide) _ _ σ) (4) rfl (by omega) (by decide) (Nat.le_refl _) dX11_asksOf_89 rfl (fun s89 es89 => ?_)
    have i_5 : mI TX nT n l P s89 := mI_fr i_4 (Fr.up es89 mM_17)
    have f_5 : Fr mM s s89 := Fr.tr f_4 (Fr.up es89 mM_17)
    refine G_aload_n (i := 0) C 91 dX11_asksOf_90 rfl rfl rfl ?_
    refine X11_58g C 94 dX11_asksOf_91 rfl ?_
    refine G_iconst (v := 5) C 95 dX11_asksOf_94 rfl rfl ?_
    refine G_aload_n (i := 0) C 96 dX11_asksOf_95 rfl rfl rfl ?_
    refine X11_13g C 99 dX11_asksOf_96 rfl ?_
    refine G_iload_n (i := 2) C 100 dX11_asksOf_99 rfl rfl rfl ?_
    refine G_iald (n := 6) C 101 (by decide) (eMk (by decide) _ _ _) (p) hx (by omega) (by decide) dX11_asksOf_100 rfl (fun x100 ex100 => ?_)
    have Sx100 : x100 = P 7 p := ex100.trans (mI_7 i_5 (by omega))
    refine G_iast (n := 6) C 102 (by decide) (fun σ => eMk (by decide) _ _ σ) (5) rfl (by omega) (by decide) (Nat.le_refl _) dX11_asksOf_101 rfl (fun s101 es101 => ?_)
    have i_6 : mI TX nT n l P s101 := mI_fr i_5 (Fr.up es101 mM_17)
    have f_6 : Fr mM s s101 := Fr.tr f_5 (Fr.up es101 mM_17)
    have hnm : ∀ i, i < 6 → s101 17 i = x_nm P p bad i := fun i hi => by
      have : i = 0 ∨ i = 1 ∨ i = 2 ∨ i = 3 ∨ i = 4 ∨ i = 5 := by omega
      rw [es101, es89, es77, es58, es39, es6]
      rcases this with rfl | rfl | rfl | rfl | rfl | rfl <;> simp [g_up, g_set, upd, x_nm, Sx38, Sx88, Sx100, h55, h74, Sx54, Sx73, hb0]
    refine G_aload_n (i := 0) C 103 dX11_asksOf_102 rfl rfl rfl ?_
    refine G_iload_n (i := 1) C 104 dX11_asksOf_103 rfl rfl rfl ?_
    refine G_calli 107 (G_runV C Kc_X11_says KV_X11_158 (by omega) (by decide) (eM _ _ _) rfl (c_X11_says 0 TX l j hl6 (by omega) pt hpt s101 (mI_l i_6) (mI_t i_6) (mI_h i_6 (by omega))) rfl rfl rfl (Nat.le_of_ble_eq_true rfl) rfl dX11_asksOf_104) rfl (fun x104 s104 h104 => ?_)
    have i_7 : mI TX nT n l P s104 := mI_fr i_6 (Fr.M16 h104.1)
    have f_7 : Fr mM s s104 := Fr.tr f_6 (Fr.M16 h104.1)
    refine G_iload_n (i := 1) C 108 dX11_asksOf_107 rfl rfl rfl ?_
    refine G_iconst (v := 2) C 109 dX11_asksOf_108 rfl rfl ?_
    refine G_icmp_ne C 117 112 dX11_asksOf_109 rfl rfl (fun c109 => ?_) (fun c109 => ?_)
    ·
      have n109 : ¬ j = 2 := fun h => c109 ((g_eqN (a := j) (b := 2) (hx := hpt) (hy := rfl) (by omega) (by omega)).mpr h)
      refine G_iconst (v := 0) C 118 dX11_asksOf_117 rfl rfl ?_
      refine G_bipush (v := 99) C 120 dX11_asksOf_118 rfl rfl ?_
      refine G_calli 123 (G_runS C Kc_X11_within KS_X11_161 (by omega) (c_X11_within 0 x104 0 99 s104) rfl rfl (Nat.le_of_ble_eq_true rfl) rfl dX11_asksOf_120) rfl (fun x120 s120 h120 => ?_)
      obtain ⟨es120, h120⟩ := h120
      have es120 := es120.symm
      subst es120
      exact G_iret C dX11_asksOf_123 (⟨f_7, by rw [h120, (show (0 : Int32) = x_lo j from (if_neg n109).symm), ← y_asksE hI hj hnm, ← h104.2]; unfold x_clamp; rfl⟩)
    ·
      have n109 : j = 2 := (g_eqN (a := j) (b := 2) (hx := hpt) (hy := rfl) (by omega) (by omega)).mp c109
      refine G_bipush (v := (-99)) C 114 dX11_asksOf_112 rfl rfl ?_
      refine G_goto C 118 dX11_asksOf_114 rfl ?_
      refine G_bipush (v := 99) C 120 dX11_asksOf_118 rfl rfl ?_
      refine G_calli 123 (G_runS C Kc_X11_within KS_X11_161 (by omega) (c_X11_within 0 x104 (-99) 99 s104) rfl rfl (Nat.le_of_ble_eq_true rfl) rfl dX11_asksOf_120) rfl (fun x120 s120 h120 => ?_)
      obtain ⟨es120, h120⟩ := h120
      have es120 := es120.symm
      subst es120
      exact G_iret C dX11_asksOf_123 (⟨f_7, by rw [h120, (show (-99 : Int32) = x_lo j from (if_pos n109).symm), ← y_asksE hI hj hnm, ← h104.2]; unfold x_clamp; rfl⟩)
  ·
    obtain ⟨tt, htt, ht, hb0⟩ : ∃ tt, tt < 10 ∧ t = nI tt ∧ bad = P 1 tt := hb.resolve_left (fun h => c9 h.1)
    refine G_aload_n (i := 0) C 13 dX11_asksOf_12 rfl rfl rfl ?_
    refine X11_58g C 16 dX11_asksOf_13 rfl ?_
    refine G_iconst (v := 0) C 17 dX11_asksOf_16 rfl rfl ?_
    refine G_aload_n (i := 0) C 18 dX11_asksOf_17 rfl rfl rfl ?_
    refine X11_19g C 21 dX11_asksOf_18 rfl ?_
    refine G_iconst (v := 3) C 22 dX11_asksOf_21 rfl rfl ?_
    refine G_iload_n (i := 3) C 23 dX11_asksOf_22 rfl rfl rfl ?_
    refine G_iadd C 24 dX11_asksOf_23 rfl (fun x23 ex23 => ?_)
    have Nx23 : x23 = nI (3 + tt) := g_addN ex23 rfl ht
    refine G_iald (n := 13) C 25 (by decide) (eMk (by decide) _ _ _) ((3 + tt)) Nx23 (by omega) (by decide) dX11_asksOf_24 rfl (fun x24 ex24 => ?_)
    have Sx24 : x24 = P 1 tt := ex24.trans (congrFun (congrFun i_1.1 1) tt)
    refine G_iast (n := 6) C 26 (by decide) (fun σ => eMk (by decide) _ _ σ) (0) rfl (by omega) (by decide) (Nat.le_refl _) dX11_asksOf_25 rfl (fun s25 es25 => ?_)
    have i_2 : mI TX nT n l P s25 := mI_fr i_1 (Fr.up es25 mM_17)
    have f_2 : Fr mM s s25 := Fr.tr f_1 (Fr.up es25 mM_17)
    refine G_aload_n (i := 0) C 27 dX11_asksOf_26 rfl rfl rfl ?_
    refine X11_58g C 30 dX11_asksOf_27 rfl ?_
    refine G_iconst (v := 1) C 31 dX11_asksOf_30 rfl rfl ?_
    refine G_aload_n (i := 0) C 32 dX11_asksOf_31 rfl rfl rfl ?_
    refine X11_16g C 35 dX11_asksOf_32 rfl ?_
    refine G_iconst (v := 4) C 36 dX11_asksOf_35 rfl rfl ?_
    refine G_iload_n (i := 2) C 37 dX11_asksOf_36 rfl rfl rfl ?_
    refine G_imul C 38 dX11_asksOf_37 rfl (fun x37 ex37 => ?_)
    have Nx37 : x37 = nI (4 * p) := g_mulN ex37 rfl hx
    refine G_iald (n := 24) C 39 (by decide) (eMk (by decide) _ _ _) ((4 * p)) Nx37 (by omega) (by decide) dX11_asksOf_38 rfl (fun x38 ex38 => ?_)
    have Sx38 : x38 = P 2 p := ex38.trans (congrFun (congrFun i_2.1 2) p)
    refine G_iast (n := 6) C 40 (by decide) (fun σ => eMk (by decide) _ _ σ) (1) rfl (by omega) (by decide) (Nat.le_refl _) dX11_asksOf_39 rfl (fun s39 es39 => ?_)
    have i_3 : mI TX nT n l P s39 := mI_fr i_2 (Fr.up es39 mM_17)
    have f_3 : Fr mM s s39 := Fr.tr f_2 (Fr.up es39 mM_17)
    refine G_aload_n (i := 0) C 41 dX11_asksOf_40 rfl rfl rfl ?_
    refine X11_58g C 44 dX11_asksOf_41 rfl ?_
    refine G_iconst (v := 2) C 45 dX11_asksOf_44 rfl rfl ?_
    refine G_aload_n (i := 0) C 46 dX11_asksOf_45 rfl rfl rfl ?_
    refine X11_16g C 49 dX11_asksOf_46 rfl ?_
    refine G_iconst (v := 4) C 50 dX11_asksOf_49 rfl rfl ?_
    refine G_iload_n (i := 2) C 51 dX11_asksOf_50 rfl rfl rfl ?_
    refine G_imul C 52 dX11_asksOf_51 rfl (fun x51 ex51 => ?_)
    have Nx51 : x51 = nI (4 * p) := g_mulN ex51 rfl hx
    refine G_iconst (v := 2) C 53 dX11_asksOf_52 rfl rfl ?_
    refine G_iadd C 54 dX11_asksOf_53 rfl (fun x53 ex53 => ?_)
    have Nx53 : x53 = nI ((4 * p) + 2) := g_addN ex53 Nx51 rfl
    refine G_iald (n := 24) C 55 (by decide) (eMk (by decide) _ _ _) (((4 * p) + 2)) Nx53 (by omega) (by decide) dX11_asksOf_54 rfl (fun x54 ex54 => ?_)
    have Sx54 : x54 = P 4 p := ex54.trans (congrFun (congrFun i_3.1 4) p)
    obtain ⟨mx54, hmx54, emx54⟩ := (mI_p i_3 (p := p) (by omega)).2.2
    refine G_calli 58 (G_runS C Kc_X11_onesOf KS_X11_82 (by omega) (c_X11_onesOf 0 x54 s39) rfl rfl (Nat.le_of_ble_eq_true rfl) rfl dX11_asksOf_55) rfl (fun x55 s55 h55 => ?_)
    obtain ⟨es55, h55⟩ := h55
    have es55 := es55.symm
    subst es55
    refine G_iast (n := 6) C 59 (by decide) (fun σ => eMk (by decide) _ _ σ) (2) rfl (by omega) (by decide) (Nat.le_refl _) dX11_asksOf_58 rfl (fun s58 es58 => ?_)
    have i_4 : mI TX nT n l P s58 := mI_fr i_3 (Fr.up es58 mM_17)
    have f_4 : Fr mM s s58 := Fr.tr f_3 (Fr.up es58 mM_17)
    refine G_aload_n (i := 0) C 60 dX11_asksOf_59 rfl rfl rfl ?_
    refine X11_58g C 63 dX11_asksOf_60 rfl ?_
    refine G_iconst (v := 3) C 64 dX11_asksOf_63 rfl rfl ?_
    refine G_aload_n (i := 0) C 65 dX11_asksOf_64 rfl rfl rfl ?_
    refine X11_16g C 68 dX11_asksOf_65 rfl ?_
    refine G_iconst (v := 4) C 69 dX11_asksOf_68 rfl rfl ?_
    refine G_iload_n (i := 2) C 70 dX11_asksOf_69 rfl rfl rfl ?_
    refine G_imul C 71 dX11_asksOf_70 rfl (fun x70 ex70 => ?_)
    have Nx70 : x70 = nI (4 * p) := g_mulN ex70 rfl hx
    refine G_iconst (v := 1) C 72 dX11_asksOf_71 rfl rfl ?_
    refine G_iadd C 73 dX11_asksOf_72 rfl (fun x72 ex72 => ?_)
    have Nx72 : x72 = nI ((4 * p) + 1) := g_addN ex72 Nx70 rfl
    refine G_iald (n := 24) C 74 (by decide) (eMk (by decide) _ _ _) (((4 * p) + 1)) Nx72 (by omega) (by decide) dX11_asksOf_73 rfl (fun x73 ex73 => ?_)
    have Sx73 : x73 = P 3 p := ex73.trans (congrFun (congrFun i_4.1 3) p)
    obtain ⟨mx73, hmx73, emx73⟩ := (mI_p i_4 (p := p) (by omega)).2.1
    refine G_calli 77 (G_runS C Kc_X11_onesOf KS_X11_82 (by omega) (c_X11_onesOf 0 x73 s58) rfl rfl (Nat.le_of_ble_eq_true rfl) rfl dX11_asksOf_74) rfl (fun x74 s74 h74 => ?_)
    obtain ⟨es74, h74⟩ := h74
    have es74 := es74.symm
    subst es74
    refine G_iast (n := 6) C 78 (by decide) (fun σ => eMk (by decide) _ _ σ) (3) rfl (by omega) (by decide) (Nat.le_refl _) dX11_asksOf_77 rfl (fun s77 es77 => ?_)
    have i_5 : mI TX nT n l P s77 := mI_fr i_4 (Fr.up es77 mM_17)
    have f_5 : Fr mM s s77 := Fr.tr f_4 (Fr.up es77 mM_17)
    refine G_aload_n (i := 0) C 79 dX11_asksOf_78 rfl rfl rfl ?_
    refine X11_58g C 82 dX11_asksOf_79 rfl ?_
    refine G_iconst (v := 4) C 83 dX11_asksOf_82 rfl rfl ?_
    refine G_aload_n (i := 0) C 84 dX11_asksOf_83 rfl rfl rfl ?_
    refine X11_19g C 87 dX11_asksOf_84 rfl ?_
    refine G_iconst (v := 0) C 88 dX11_asksOf_87 rfl rfl ?_
    refine G_iald (n := 13) C 89 (by decide) (eMk (by decide) _ _ _) (0) rfl (by omega) (by decide) dX11_asksOf_88 rfl (fun x88 ex88 => ?_)
    have Sx88 : x88 = P 0 0 := ex88.trans (mI_v i_5 0 0)
    refine G_iast (n := 6) C 90 (by decide) (fun σ => eMk (by decide) _ _ σ) (4) rfl (by omega) (by decide) (Nat.le_refl _) dX11_asksOf_89 rfl (fun s89 es89 => ?_)
    have i_6 : mI TX nT n l P s89 := mI_fr i_5 (Fr.up es89 mM_17)
    have f_6 : Fr mM s s89 := Fr.tr f_5 (Fr.up es89 mM_17)
    refine G_aload_n (i := 0) C 91 dX11_asksOf_90 rfl rfl rfl ?_
    refine X11_58g C 94 dX11_asksOf_91 rfl ?_
    refine G_iconst (v := 5) C 95 dX11_asksOf_94 rfl rfl ?_
    refine G_aload_n (i := 0) C 96 dX11_asksOf_95 rfl rfl rfl ?_
    refine X11_13g C 99 dX11_asksOf_96 rfl ?_
    refine G_iload_n (i := 2) C 100 dX11_asksOf_99 rfl rfl rfl ?_
    refine G_iald (n := 6) C 101 (by decide) (eMk (by decide) _ _ _) (p) hx (by omega) (by decide) dX11_asksOf_100 rfl (fun x100 ex100 => ?_)
    have Sx100 : x100 = P 7 p := ex100.trans (mI_7 i_6 (by omega))
    refine G_iast (n := 6) C 102 (by decide) (fun σ => eMk (by decide) _ _ σ) (5) rfl (by omega) (by decide) (Nat.le_refl _) dX11_asksOf_101 rfl (fun s101 es101 => ?_)
    have i_7 : mI TX nT n l P s101 := mI_fr i_6 (Fr.up es101 mM_17)
    have f_7 : Fr mM s s101 := Fr.tr f_6 (Fr.up es101 mM_17)
    have hnm : ∀ i, i < 6 → s101 17 i = x_nm P p bad i := fun i hi => by
      have : i = 0 ∨ i = 1 ∨ i = 2 ∨ i = 3 ∨ i = 4 ∨ i = 5 := by omega
      rw [es101, es89, es77, es58, es39, es25, es6]
      rcases this with rfl | rfl | rfl | rfl | rfl | rfl <;> simp [g_up, g_set, upd, x_nm, Sx38, Sx88, Sx100, h55, h74, Sx54, Sx73, hb0, Sx24]
    refine G_aload_n (i := 0) C 103 dX11_asksOf_102 rfl rfl rfl ?_
    refine G_iload_n (i := 1) C 104 dX11_asksOf_103 rfl rfl rfl ?_
    refine G_calli 107 (G_runV C Kc_X11_says KV_X11_158 (by omega) (by decide) (eM _ _ _) rfl (c_X11_says 0 TX l j hl6 (by omega) pt hpt s101 (mI_l i_7) (mI_t i_7) (mI_h i_7 (by omega))) rfl rfl rfl (Nat.le_of_ble_eq_true rfl) rfl dX11_asksOf_104) rfl (fun x104 s104 h104 => ?_)
    have i_8 : mI TX nT n l P s104 := mI_fr i_7 (Fr.M16 h104.1)
    have f_8 : Fr mM s s104 := Fr.tr f_7 (Fr.M16 h104.1)
    refine G_iload_n (i := 1) C 108 dX11_asksOf_107 rfl rfl rfl ?_
    refine G_iconst (v := 2) C 109 dX11_asksOf_108 rfl rfl ?_
    refine G_icmp_ne C 117 112 dX11_asksOf_109 rfl rfl (fun c109 => ?_) (fun c109 => ?_)
    ·
      have n109 : ¬ j = 2 := fun h => c109 ((g_eqN (a := j) (b := 2) (hx := hpt) (hy := rfl) (by omega) (by omega)).mpr h)
      refine G_iconst (v := 0) C 118 dX11_asksOf_117 rfl rfl ?_
      refine G_bipush (v := 99) C 120 dX11_asksOf_118 rfl rfl ?_
      refine G_calli 123 (G_runS C Kc_X11_within KS_X11_161 (by omega) (c_X11_within 0 x104 0 99 s104) rfl rfl (Nat.le_of_ble_eq_true rfl) rfl dX11_asksOf_120) rfl (fun x120 s120 h120 => ?_)
      obtain ⟨es120, h120⟩ := h120
      have es120 := es120.symm
      subst es120
      exact G_iret C dX11_asksOf_123 (⟨f_8, by rw [h120, (show (0 : Int32) = x_lo j from (if_neg n109).symm), ← y_asksE hI hj hnm, ← h104.2]; unfold x_clamp; rfl⟩)
    ·
      have n109 : j = 2 := (g_eqN (a := j) (b := 2) (hx := hpt) (hy := rfl) (by omega) (by omega)).mp c109
      refine G_bipush (v := (-99)) C 114 dX11_asksOf_112 rfl rfl ?_
      refine G_goto C 118 dX11_asksOf_114 rfl ?_
      refine G_bipush (v := 99) C 120 dX11_asksOf_118 rfl rfl ?_
      refine G_calli 123 (G_runS C Kc_X11_within KS_X11_161 (by omega) (c_X11_within 0 x104 (-99) 99 s104) rfl rfl (Nat.le_of_ble_eq_true rfl) rfl dX11_asksOf_120) rfl (fun x120 s120 h120 => ?_)
      obtain ⟨es120, h120⟩ := h120
      have es120 := es120.symm
      subst es120
      exact G_iret C dX11_asksOf_123 (⟨f_8, by rw [h120, (show (-99 : Int32) = x_lo j from (if_pos n109).symm), ← y_asksE hI hj hnm, ← h104.2]; unfold x_clamp; rfl⟩)
theorem dX11_plainWish_0 : decode cX11_plainWish 0 = .ok (.iload_n 3, 1) := by decide +kernel
theorem dX11_plainWish_1 : decode cX11_plainWish 1 = .ok (.ifCond .eq 24, 3) := by decide +kernel
theorem dX11_plainWish_4 : decode cX11_plainWish 4 = .ok (.aload_n 0, 1) := by decide +kernel
theorem dX11_plainWish_5 : decode cX11_plainWish 5 = .ok (.iconst 0, 1) := by decide +kernel
theorem dX11_plainWish_6 : decode cX11_plainWish 6 = .ok (.iload_n 1, 1) := by decide +kernel
theorem dX11_plainWish_7 : decode cX11_plainWish 7 = .ok (.iload_n 2, 1) := by decide +kernel
theorem dX11_plainWish_8 : decode cX11_plainWish 8 = .ok (.invokevirtual 167, 3) := by decide +kernel
theorem dX11_plainWish_11 : decode cX11_plainWish 11 = .ok (.aload_n 0, 1) := by decide +kernel
theorem dX11_plainWish_12 : decode cX11_plainWish 12 = .ok (.iconst 1, 1) := by decide +kernel
theorem dX11_plainWish_13 : decode cX11_plainWish 13 = .ok (.iload_n 1, 1) := by decide +kernel
theorem dX11_plainWish_14 : decode cX11_plainWish 14 = .ok (.iload_n 2, 1) := by decide +kernel
theorem dX11_plainWish_15 : decode cX11_plainWish 15 = .ok (.invokevirtual 167, 3) := by decide +kernel
theorem dX11_plainWish_18 : decode cX11_plainWish 18 = .ok (.if_icmp .lt 7, 3) := by decide +kernel
theorem dX11_plainWish_21 : decode cX11_plainWish 21 = .ok (.iconst 1, 1) := by decide +kernel
theorem dX11_plainWish_22 : decode cX11_plainWish 22 = .ok (.goto 4, 3) := by decide +kernel
theorem dX11_plainWish_25 : decode cX11_plainWish 25 = .ok (.iconst 0, 1) := by decide +kernel
theorem dX11_plainWish_26 : decode cX11_plainWish 26 = .ok (.ireturn, 1) := by decide +kernel
set_option maxHeartbeats 4000000 in
set_option maxRecDepth 100000 in
theorem c_X11_plainWish (d : Nat) (TX : gTX) (nT n l : Nat) (P s : gS) (hI : mI TX nT n l P s) (x : Int32) (p : Nat) (hx : x = nI p) (hp : p < n) (t : Int32) (tt : Nat) (ht : t = nI tt) (htt : tt < 10) (wd : Int32) (hwd : wd = 0 ∨ wd = 1) : gMt SM yX11_plainWish cX11_plainWish 4 (some .boolean) (d + 5) (fun ad => [.ref (ad 0), .int x, .int t, .int wd]) s (gQi SM (fun r s' => Fr mM s s' ∧ r = x_kwC wd (x_asks TX P 0 p (P 1 tt)) (x_asks TX P 1 p (P 1 tt)))) := by
  have hn6 : n ≤ 6 := hI.2.1.2.1
  have hl6 : l < 6 := mI_l6 hI
  refine gMt_of SM_ok (by decide +kernel) (fun ad => [some (.ref (ad 0)), some (.int x), some (.int t), some (.int wd)]) (fun _ => rfl) (fun _ => rfl) (fun _ => Nat.le_of_ble_eq_true rfl) (fun E C0 => ?_)
  have C : gCx SM E RX11 cX11_plainWish 4 (some .boolean) (d + 5) := C0
  have i : mI TX nT n l P s := hI
  have f : Fr mM s s := Fr.rf
  refine G_iload_n (i := 3) C 1 dX11_plainWish_0 rfl rfl rfl ?_
  refine G_if_eq C 25 4 dX11_plainWish_1 rfl rfl (fun c1 => ?_) (fun c1 => ?_)
  ·
    refine G_iconst (v := 0) C 26 dX11_plainWish_25 rfl rfl ?_
    exact G_zret C rfl dX11_plainWish_26 (⟨f, by unfold x_kwC; rw [if_pos c1]⟩)
  ·
    refine G_aload_n (i := 0) C 5 dX11_plainWish_4 rfl rfl rfl ?_
    refine G_iconst (v := 0) C 6 dX11_plainWish_5 rfl rfl ?_
    refine G_iload_n (i := 1) C 7 dX11_plainWish_6 rfl rfl rfl ?_
    refine G_iload_n (i := 2) C 8 dX11_plainWish_7 rfl rfl rfl ?_
    refine G_calli 11 (G_runV C Kc_X11_asksOf KV_X11_167 (by omega) (by decide) (eM _ _ _) rfl (c_X11_asksOf 0 TX nT n l P s i 0 0 rfl (by omega) x p hx (by omega) t (P 1 tt) (Or.inr ⟨tt, htt, ht, rfl⟩)) rfl rfl rfl (Nat.le_of_ble_eq_true rfl) rfl dX11_plainWish_8) rfl (fun x8 s8 h8 => ?_)
    have i_1 : mI TX nT n l P s8 := mI_fr i (h8.1)
    have f_1 : Fr mM s s8 := Fr.tr f (h8.1)
    refine G_aload_n (i := 0) C 12 dX11_plainWish_11 rfl rfl rfl ?_
    refine G_iconst (v := 1) C 13 dX11_plainWish_12 rfl rfl ?_
    refine G_iload_n (i := 1) C 14 dX11_plainWish_13 rfl rfl rfl ?_
    refine G_iload_n (i := 2) C 15 dX11_plainWish_14 rfl rfl rfl ?_
    refine G_calli 18 (G_runV C Kc_X11_asksOf KV_X11_167 (by omega) (by decide) (eM _ _ _) rfl (c_X11_asksOf 0 TX nT n l P s8 i_1 1 1 rfl (by omega) x p hx (by omega) t (P 1 tt) (Or.inr ⟨tt, htt, ht, rfl⟩)) rfl rfl rfl (Nat.le_of_ble_eq_true rfl) rfl dX11_plainWish_15) rfl (fun x15 s15 h15 => ?_)
    have i_2 : mI TX nT n l P s15 := mI_fr i_1 (h15.1)
    have f_2 : Fr mM s s15 := Fr.tr f_1 (h15.1)
    refine G_icmp_lt C 25 21 dX11_plainWish_18 rfl rfl (fun c18 => ?_) (fun c18 => ?_)
    ·
      refine G_iconst (v := 0) C 26 dX11_plainWish_25 rfl rfl ?_
      exact G_zret C rfl dX11_plainWish_26 (⟨f_2, by unfold x_kwC; rw [if_neg c1, ← h8.2, ← h15.2, if_pos c18]⟩)
    ·
      refine G_iconst (v := 1) C 22 dX11_plainWish_21 rfl rfl ?_
      refine G_goto C 26 dX11_plainWish_22 rfl ?_
      exact G_zret C rfl dX11_plainWish_26 (⟨f_2, by unfold x_kwC; rw [if_neg c1, ← h8.2, ← h15.2, if_neg c18]⟩)
theorem dX11_motherWish_0 : decode cX11_motherWish 0 = .ok (.iload_n 3, 1) := by decide +kernel
theorem dX11_motherWish_1 : decode cX11_motherWish 1 = .ok (.ifCond .ne 23, 3) := by decide +kernel
theorem dX11_motherWish_4 : decode cX11_motherWish 4 = .ok (.aload_n 0, 1) := by decide +kernel
theorem dX11_motherWish_5 : decode cX11_motherWish 5 = .ok (.iconst 0, 1) := by decide +kernel
theorem dX11_motherWish_6 : decode cX11_motherWish 6 = .ok (.iload_n 1, 1) := by decide +kernel
theorem dX11_motherWish_7 : decode cX11_motherWish 7 = .ok (.iload_n 2, 1) := by decide +kernel
theorem dX11_motherWish_8 : decode cX11_motherWish 8 = .ok (.invokevirtual 167, 3) := by decide +kernel
theorem dX11_motherWish_11 : decode cX11_motherWish 11 = .ok (.iload 4, 2) := by decide +kernel
theorem dX11_motherWish_13 : decode cX11_motherWish 13 = .ok (.iadd, 1) := by decide +kernel
theorem dX11_motherWish_14 : decode cX11_motherWish 14 = .ok (.aload_n 0, 1) := by decide +kernel
theorem dX11_motherWish_15 : decode cX11_motherWish 15 = .ok (.iconst 1, 1) := by decide +kernel
theorem dX11_motherWish_16 : decode cX11_motherWish 16 = .ok (.iload_n 1, 1) := by decide +kernel
theorem dX11_motherWish_17 : decode cX11_motherWish 17 = .ok (.iload_n 2, 1) := by decide +kernel
theorem dX11_motherWish_18 : decode cX11_motherWish 18 = .ok (.invokevirtual 167, 3) := by decide +kernel
theorem dX11_motherWish_21 : decode cX11_motherWish 21 = .ok (.if_icmp .ge 7, 3) := by decide +kernel
theorem dX11_motherWish_24 : decode cX11_motherWish 24 = .ok (.iconst 1, 1) := by decide +kernel
theorem dX11_motherWish_25 : decode cX11_motherWish 25 = .ok (.goto 4, 3) := by decide +kernel
theorem dX11_motherWish_28 : decode cX11_motherWish 28 = .ok (.iconst 0, 1) := by decide +kernel
theorem dX11_motherWish_29 : decode cX11_motherWish 29 = .ok (.ireturn, 1) := by decide +kernel
set_option maxHeartbeats 4000000 in
set_option maxRecDepth 100000 in
theorem c_X11_motherWish (d : Nat) (TX : gTX) (nT n l : Nat) (P s : gS) (hI : mI TX nT n l P s) (x : Int32) (p : Nat) (hx : x = nI p) (hp : p < n) (t : Int32) (tt : Nat) (ht : t = nI tt) (htt : tt < 10) (wd : Int32) (hwd : wd = 0 ∨ wd = 1) (mo : Int32) : gMt SM yX11_motherWish cX11_motherWish 5 (some .boolean) (d + 5) (fun ad => [.ref (ad 0), .int x, .int t, .int wd, .int mo]) s (gQi SM (fun r s' => Fr mM s s' ∧ r = if wd = 0 then (if (x_asks TX P 0 p (P 1 tt)) + mo < (x_asks TX P 1 p (P 1 tt)) then 1 else 0) else 1)) := by
  have hn6 : n ≤ 6 := hI.2.1.2.1
  have hl6 : l < 6 := mI_l6 hI
  refine gMt_of SM_ok (by decide +kernel) (fun ad => [some (.ref (ad 0)), some (.int x), some (.int t), some (.int wd), some (.int mo)]) (fun _ => rfl) (fun _ => rfl) (fun _ => Nat.le_of_ble_eq_true rfl) (fun E C0 => ?_)
  have C : gCx SM E RX11 cX11_motherWish 5 (some .boolean) (d + 5) := C0
  have i : mI TX nT n l P s := hI
  have f : Fr mM s s := Fr.rf
  refine G_iload_n (i := 3) C 1 dX11_motherWish_0 rfl rfl rfl ?_
  refine G_if_ne C 24 4 dX11_motherWish_1 rfl rfl (fun c1 => ?_) (fun c1 => ?_)
  ·
    refine G_iconst (v := 1) C 25 dX11_motherWish_24 rfl rfl ?_
    refine G_goto C 29 dX11_motherWish_25 rfl ?_
    exact G_zret C rfl dX11_motherWish_29 (⟨f, by rw [if_neg c1]⟩)
  ·
    refine G_aload_n (i := 0) C 5 dX11_motherWish_4 rfl rfl rfl ?_
    refine G_iconst (v := 0) C 6 dX11_motherWish_5 rfl rfl ?_
    refine G_iload_n (i := 1) C 7 dX11_motherWish_6 rfl rfl rfl ?_
    refine G_iload_n (i := 2) C 8 dX11_motherWish_7 rfl rfl rfl ?_
    refine G_calli 11 (G_runV C Kc_X11_asksOf KV_X11_167 (by omega) (by decide) (eM _ _ _) rfl (c_X11_asksOf 0 TX nT n l P s i 0 0 rfl (by omega) x p hx (by omega) t (P 1 tt) (Or.inr ⟨tt, htt, ht, rfl⟩)) rfl rfl rfl (Nat.le_of_ble_eq_true rfl) rfl dX11_motherWish_8) rfl (fun x8 s8 h8 => ?_)
    have i_1 : mI TX nT n l P s8 := mI_fr i (h8.1)
    have f_1 : Fr mM s s8 := Fr.tr f (h8.1)
    refine G_iload C 13 dX11_motherWish_11 rfl rfl ?_
    refine G_iadd C 14 dX11_motherWish_13 rfl (fun x13 ex13 => ?_)
    refine G_aload_n (i := 0) C 15 dX11_motherWish_14 rfl rfl rfl ?_
    refine G_iconst (v := 1) C 16 dX11_motherWish_15 rfl rfl ?_
    refine G_iload_n (i := 1) C 17 dX11_motherWish_16 rfl rfl rfl ?_
    refine G_iload_n (i := 2) C 18 dX11_motherWish_17 rfl rfl rfl ?_
    refine G_calli 21 (G_runV C Kc_X11_asksOf KV_X11_167 (by omega) (by decide) (eM _ _ _) rfl (c_X11_asksOf 0 TX nT n l P s8 i_1 1 1 rfl (by omega) x p hx (by omega) t (P 1 tt) (Or.inr ⟨tt, htt, ht, rfl⟩)) rfl rfl rfl (Nat.le_of_ble_eq_true rfl) rfl dX11_motherWish_18) rfl (fun x18 s18 h18 => ?_)
    have i_2 : mI TX nT n l P s18 := mI_fr i_1 (h18.1)
    have f_2 : Fr mM s s18 := Fr.tr f_1 (h18.1)
    refine G_icmp_ge C 28 24 dX11_motherWish_21 rfl rfl (fun c21 => ?_) (fun c21 => ?_)
    ·
      refine G_iconst (v := 0) C 29 dX11_motherWish_28 rfl rfl ?_
      exact G_zret C rfl dX11_motherWish_29 (⟨f_2, by rw [if_pos c1, ← h8.2, ← h18.2, ← ex13, if_neg c21]⟩)
    ·
      refine G_iconst (v := 1) C 25 dX11_motherWish_24 rfl rfl ?_
      refine G_goto C 29 dX11_motherWish_25 rfl ?_
      exact G_zret C rfl dX11_motherWish_29 (⟨f_2, by rw [if_pos c1, ← h8.2, ← h18.2, ← ex13, if_pos c21]⟩)
theorem x_wishes01 (TX : gTX) (P : gS) (p t : Nat) : x_wishes TX P p t = 0 ∨ x_wishes TX P p t = 1 := by
  unfold x_wishes x_wish
  split
  · exact x_kw01 _ _ _ _ _ _
  · exact Or.inl rfl
theorem dX11_wishes_0 : decode cX11_wishes 0 = .ok (.aload_n 0, 1) := by decide +kernel
theorem dX11_wishes_1 : decode cX11_wishes 1 = .ok (.getfield 16, 3) := by decide +kernel
theorem dX11_wishes_4 : decode cX11_wishes 4 = .ok (.iconst 4, 1) := by decide +kernel
theorem dX11_wishes_5 : decode cX11_wishes 5 = .ok (.iload_n 1, 1) := by decide +kernel
theorem dX11_wishes_6 : decode cX11_wishes 6 = .ok (.imul, 1) := by decide +kernel
theorem dX11_wishes_7 : decode cX11_wishes 7 = .ok (.iconst 2, 1) := by decide +kernel
theorem dX11_wishes_8 : decode cX11_wishes 8 = .ok (.iadd, 1) := by decide +kernel
theorem dX11_wishes_9 : decode cX11_wishes 9 = .ok (.iaload, 1) := by decide +kernel
theorem dX11_wishes_10 : decode cX11_wishes 10 = .ok (.iload_n 2, 1) := by decide +kernel
theorem dX11_wishes_11 : decode cX11_wishes 11 = .ok (.ishr, 1) := by decide +kernel
theorem dX11_wishes_12 : decode cX11_wishes 12 = .ok (.iconst 1, 1) := by decide +kernel
theorem dX11_wishes_13 : decode cX11_wishes 13 = .ok (.iand, 1) := by decide +kernel
theorem dX11_wishes_14 : decode cX11_wishes 14 = .ok (.iconst 1, 1) := by decide +kernel
theorem dX11_wishes_15 : decode cX11_wishes 15 = .ok (.if_icmp .ne 5, 3) := by decide +kernel
theorem dX11_wishes_18 : decode cX11_wishes 18 = .ok (.iconst 0, 1) := by decide +kernel
theorem dX11_wishes_19 : decode cX11_wishes 19 = .ok (.ireturn, 1) := by decide +kernel
theorem dX11_wishes_20 : decode cX11_wishes 20 = .ok (.aload_n 0, 1) := by decide +kernel
theorem dX11_wishes_21 : decode cX11_wishes 21 = .ok (.getfield 16, 3) := by decide +kernel
theorem dX11_wishes_24 : decode cX11_wishes 24 = .ok (.iconst 4, 1) := by decide +kernel
theorem dX11_wishes_25 : decode cX11_wishes 25 = .ok (.iload_n 1, 1) := by decide +kernel
theorem dX11_wishes_26 : decode cX11_wishes 26 = .ok (.imul, 1) := by decide +kernel
theorem dX11_wishes_27 : decode cX11_wishes 27 = .ok (.iconst 1, 1) := by decide +kernel
theorem dX11_wishes_28 : decode cX11_wishes 28 = .ok (.iadd, 1) := by decide +kernel
theorem dX11_wishes_29 : decode cX11_wishes 29 = .ok (.iaload, 1) := by decide +kernel
theorem dX11_wishes_30 : decode cX11_wishes 30 = .ok (.iload_n 2, 1) := by decide +kernel
theorem dX11_wishes_31 : decode cX11_wishes 31 = .ok (.ishr, 1) := by decide +kernel
theorem dX11_wishes_32 : decode cX11_wishes 32 = .ok (.iconst 1, 1) := by decide +kernel
theorem dX11_wishes_33 : decode cX11_wishes 33 = .ok (.iand, 1) := by decide +kernel
theorem dX11_wishes_34 : decode cX11_wishes 34 = .ok (.iconst 1, 1) := by decide +kernel
theorem dX11_wishes_35 : decode cX11_wishes 35 = .ok (.if_icmp .ne 7, 3) := by decide +kernel
theorem dX11_wishes_38 : decode cX11_wishes 38 = .ok (.iconst 1, 1) := by decide +kernel
theorem dX11_wishes_39 : decode cX11_wishes 39 = .ok (.goto 4, 3) := by decide +kernel
theorem dX11_wishes_42 : decode cX11_wishes 42 = .ok (.iconst 0, 1) := by decide +kernel
theorem dX11_wishes_43 : decode cX11_wishes 43 = .ok (.istore_n 3, 1) := by decide +kernel
theorem dX11_wishes_44 : decode cX11_wishes 44 = .ok (.aload_n 0, 1) := by decide +kernel
theorem dX11_wishes_45 : decode cX11_wishes 45 = .ok (.getfield 7, 3) := by decide +kernel
theorem dX11_wishes_48 : decode cX11_wishes 48 = .ok (.iload_n 1, 1) := by decide +kernel
theorem dX11_wishes_49 : decode cX11_wishes 49 = .ok (.iaload, 1) := by decide +kernel
theorem dX11_wishes_50 : decode cX11_wishes 50 = .ok (.tableswitch 105 1 5 #[34, 105, 51, 87, 103], 34) := by decide +kernel
theorem dX11_wishes_84 : decode cX11_wishes 84 = .ok (.aload_n 0, 1) := by decide +kernel
theorem dX11_wishes_85 : decode cX11_wishes 85 = .ok (.iload_n 1, 1) := by decide +kernel
theorem dX11_wishes_86 : decode cX11_wishes 86 = .ok (.iload_n 2, 1) := by decide +kernel
theorem dX11_wishes_87 : decode cX11_wishes 87 = .ok (.iload_n 3, 1) := by decide +kernel
theorem dX11_wishes_88 : decode cX11_wishes 88 = .ok (.bipush 10, 2) := by decide +kernel
theorem dX11_wishes_90 : decode cX11_wishes 90 = .ok (.aload_n 0, 1) := by decide +kernel
theorem dX11_wishes_91 : decode cX11_wishes 91 = .ok (.getfield 13, 3) := by decide +kernel
theorem dX11_wishes_94 : decode cX11_wishes 94 = .ok (.iload_n 1, 1) := by decide +kernel
theorem dX11_wishes_95 : decode cX11_wishes 95 = .ok (.iaload, 1) := by decide +kernel
theorem dX11_wishes_96 : decode cX11_wishes 96 = .ok (.imul, 1) := by decide +kernel
theorem dX11_wishes_97 : decode cX11_wishes 97 = .ok (.invokevirtual 173, 3) := by decide +kernel
theorem dX11_wishes_100 : decode cX11_wishes 100 = .ok (.ireturn, 1) := by decide +kernel
theorem dX11_wishes_101 : decode cX11_wishes 101 = .ok (.aload_n 0, 1) := by decide +kernel
theorem dX11_wishes_102 : decode cX11_wishes 102 = .ok (.getfield 19, 3) := by decide +kernel
theorem dX11_wishes_105 : decode cX11_wishes 105 = .ok (.iconst 0, 1) := by decide +kernel
theorem dX11_wishes_106 : decode cX11_wishes 106 = .ok (.iaload, 1) := by decide +kernel
theorem dX11_wishes_107 : decode cX11_wishes 107 = .ok (.iconst 2, 1) := by decide +kernel
theorem dX11_wishes_108 : decode cX11_wishes 108 = .ok (.irem, 1) := by decide +kernel
theorem dX11_wishes_109 : decode cX11_wishes 109 = .ok (.ifCond .ne 26, 3) := by decide +kernel
theorem dX11_wishes_112 : decode cX11_wishes 112 = .ok (.aload_n 0, 1) := by decide +kernel
theorem dX11_wishes_113 : decode cX11_wishes 113 = .ok (.iload_n 1, 1) := by decide +kernel
theorem dX11_wishes_114 : decode cX11_wishes 114 = .ok (.iload_n 2, 1) := by decide +kernel
theorem dX11_wishes_115 : decode cX11_wishes 115 = .ok (.iload_n 3, 1) := by decide +kernel
theorem dX11_wishes_116 : decode cX11_wishes 116 = .ok (.bipush 11, 2) := by decide +kernel
theorem dX11_wishes_118 : decode cX11_wishes 118 = .ok (.aload_n 0, 1) := by decide +kernel
theorem dX11_wishes_119 : decode cX11_wishes 119 = .ok (.getfield 13, 3) := by decide +kernel
theorem dX11_wishes_122 : decode cX11_wishes 122 = .ok (.iload_n 1, 1) := by decide +kernel
theorem dX11_wishes_123 : decode cX11_wishes 123 = .ok (.iaload, 1) := by decide +kernel
theorem dX11_wishes_124 : decode cX11_wishes 124 = .ok (.imul, 1) := by decide +kernel
theorem dX11_wishes_125 : decode cX11_wishes 125 = .ok (.invokevirtual 173, 3) := by decide +kernel
theorem dX11_wishes_128 : decode cX11_wishes 128 = .ok (.ifCond .eq 7, 3) := by decide +kernel
theorem dX11_wishes_131 : decode cX11_wishes 131 = .ok (.iconst 1, 1) := by decide +kernel
theorem dX11_wishes_132 : decode cX11_wishes 132 = .ok (.goto 4, 3) := by decide +kernel
theorem dX11_wishes_135 : decode cX11_wishes 135 = .ok (.iconst 0, 1) := by decide +kernel
theorem dX11_wishes_136 : decode cX11_wishes 136 = .ok (.ireturn, 1) := by decide +kernel
theorem dX11_wishes_137 : decode cX11_wishes 137 = .ok (.aload_n 0, 1) := by decide +kernel
theorem dX11_wishes_138 : decode cX11_wishes 138 = .ok (.iload_n 1, 1) := by decide +kernel
theorem dX11_wishes_139 : decode cX11_wishes 139 = .ok (.iload_n 2, 1) := by decide +kernel
theorem dX11_wishes_140 : decode cX11_wishes 140 = .ok (.iload_n 3, 1) := by decide +kernel
theorem dX11_wishes_141 : decode cX11_wishes 141 = .ok (.invokevirtual 177, 3) := by decide +kernel
theorem dX11_wishes_144 : decode cX11_wishes 144 = .ok (.ifCond .ne 7, 3) := by decide +kernel
theorem dX11_wishes_147 : decode cX11_wishes 147 = .ok (.iconst 1, 1) := by decide +kernel
theorem dX11_wishes_148 : decode cX11_wishes 148 = .ok (.goto 4, 3) := by decide +kernel
theorem dX11_wishes_151 : decode cX11_wishes 151 = .ok (.iconst 0, 1) := by decide +kernel
theorem dX11_wishes_152 : decode cX11_wishes 152 = .ok (.ireturn, 1) := by decide +kernel
theorem dX11_wishes_153 : decode cX11_wishes 153 = .ok (.iconst 0, 1) := by decide +kernel
theorem dX11_wishes_154 : decode cX11_wishes 154 = .ok (.ireturn, 1) := by decide +kernel
theorem dX11_wishes_155 : decode cX11_wishes 155 = .ok (.aload_n 0, 1) := by decide +kernel
theorem dX11_wishes_156 : decode cX11_wishes 156 = .ok (.iload_n 1, 1) := by decide +kernel
theorem dX11_wishes_157 : decode cX11_wishes 157 = .ok (.iload_n 2, 1) := by decide +kernel
theorem dX11_wishes_158 : decode cX11_wishes 158 = .ok (.iload_n 3, 1) := by decide +kernel
theorem dX11_wishes_159 : decode cX11_wishes 159 = .ok (.invokevirtual 177, 3) := by decide +kernel
theorem dX11_wishes_162 : decode cX11_wishes 162 = .ok (.ireturn, 1) := by decide +kernel
set_option maxHeartbeats 4000000 in
set_option maxRecDepth 100000 in
theorem c_X11_wishes (d : Nat) (TX : gTX) (nT n l : Nat) (P s : gS) (hI : mI TX nT n l P s) (x : Int32) (p : Nat) (hx : x = nI p) (hp : p < n) (t : Int32) (tt : Nat) (ht : t = nI tt) (htt : tt < 10) : gMt SM yX11_wishes cX11_wishes 4 (some .boolean) (d + 6) (fun ad => [.ref (ad 0), .int x, .int t]) s (gQi SM (fun r s' => Fr mM s s' ∧ r = x_wishes TX P p tt)) := by
  have hn6 : n ≤ 6 := hI.2.1.2.1
  have hl6 : l < 6 := mI_l6 hI
  refine gMt_of SM_ok (by decide +kernel) (fun ad => [some (.ref (ad 0)), some (.int x), some (.int t), none]) (fun _ => rfl) (fun _ => rfl) (fun _ => Nat.le_of_ble_eq_true rfl) (fun E C0 => ?_)
  have C : gCx SM E RX11 cX11_wishes 4 (some .boolean) (d + 6) := C0
  have i : mI TX nT n l P s := hI
  have f : Fr mM s s := Fr.rf
  refine G_aload_n (i := 0) C 1 dX11_wishes_0 rfl rfl rfl ?_
  refine X11_16g C 4 dX11_wishes_1 rfl ?_
  refine G_iconst (v := 4) C 5 dX11_wishes_4 rfl rfl ?_
  refine G_iload_n (i := 1) C 6 dX11_wishes_5 rfl rfl rfl ?_
  refine G_imul C 7 dX11_wishes_6 rfl (fun x6 ex6 => ?_)
  have Nx6 : x6 = nI (4 * p) := g_mulN ex6 rfl hx
  refine G_iconst (v := 2) C 8 dX11_wishes_7 rfl rfl ?_
  refine G_iadd C 9 dX11_wishes_8 rfl (fun x8 ex8 => ?_)
  have Nx8 : x8 = nI ((4 * p) + 2) := g_addN ex8 Nx6 rfl
  refine G_iald (n := 24) C 10 (by decide) (eMk (by decide) _ _ _) (((4 * p) + 2)) Nx8 (by omega) (by decide) dX11_wishes_9 rfl (fun x9 ex9 => ?_)
  have Sx9 : x9 = P 4 p := ex9.trans (congrFun (congrFun i.1 4) p)
  obtain ⟨mx9, hmx9, emx9⟩ := (mI_p i (p := p) (by omega)).2.2
  refine G_iload_n (i := 2) C 11 dX11_wishes_10 rfl rfl rfl ?_
  refine G_ishr C 12 dX11_wishes_11 rfl (fun x11 ex11 => ?_)
  refine G_iconst (v := 1) C 13 dX11_wishes_12 rfl rfl ?_
  refine G_iand C 14 dX11_wishes_13 rfl (fun x13 ex13 => ?_)
  refine G_iconst (v := 1) C 15 dX11_wishes_14 rfl rfl ?_
  refine G_icmp_ne C 20 18 dX11_wishes_15 rfl rfl (fun c15 => ?_) (fun c15 => ?_)
  ·
    refine G_aload_n (i := 0) C 21 dX11_wishes_20 rfl rfl rfl ?_
    refine X11_16g C 24 dX11_wishes_21 rfl ?_
    refine G_iconst (v := 4) C 25 dX11_wishes_24 rfl rfl ?_
    refine G_iload_n (i := 1) C 26 dX11_wishes_25 rfl rfl rfl ?_
    refine G_imul C 27 dX11_wishes_26 rfl (fun x26 ex26 => ?_)
    have Nx26 : x26 = nI (4 * p) := g_mulN ex26 rfl hx
    refine G_iconst (v := 1) C 28 dX11_wishes_27 rfl rfl ?_
    refine G_iadd C 29 dX11_wishes_28 rfl (fun x28 ex28 => ?_)
    have Nx28 : x28 = nI ((4 * p) + 1) := g_addN ex28 Nx26 rfl
    refine G_iald (n := 24) C 30 (by decide) (eMk (by decide) _ _ _) (((4 * p) + 1)) Nx28 (by omega) (by decide) dX11_wishes_29 rfl (fun x29 ex29 => ?_)
    have Sx29 : x29 = P 3 p := ex29.trans (congrFun (congrFun i.1 3) p)
    obtain ⟨mx29, hmx29, emx29⟩ := (mI_p i (p := p) (by omega)).2.1
    refine G_iload_n (i := 2) C 31 dX11_wishes_30 rfl rfl rfl ?_
    refine G_ishr C 32 dX11_wishes_31 rfl (fun x31 ex31 => ?_)
    refine G_iconst (v := 1) C 33 dX11_wishes_32 rfl rfl ?_
    refine G_iand C 34 dX11_wishes_33 rfl (fun x33 ex33 => ?_)
    refine G_iconst (v := 1) C 35 dX11_wishes_34 rfl rfl ?_
    refine G_icmp_ne C 42 38 dX11_wishes_35 rfl rfl (fun c35 => ?_) (fun c35 => ?_)
    ·
      refine G_iconst (v := 0) C 43 dX11_wishes_42 rfl rfl ?_
      refine G_istore_n (i := 3) (L' := [some (.ref (e_ad E 0)), some (.int x), some (.int t), some (.int 0)]) C 44 dX11_wishes_43 rfl rfl (Nat.le_of_ble_eq_true rfl) rfl rfl ?_
      refine G_aload_n (i := 0) C 45 dX11_wishes_44 rfl rfl rfl ?_
      refine X11_7g C 48 dX11_wishes_45 rfl ?_
      refine G_iload_n (i := 1) C 49 dX11_wishes_48 rfl rfl rfl ?_
      refine G_iald (n := 6) C 50 (by decide) (eMk (by decide) _ _ _) (p) hx (by omega) (by decide) dX11_wishes_49 rfl (fun x49 ex49 => ?_)
      have Sx49 : x49 = P 6 p := ex49.trans (mI_6 i (by omega))
      obtain ⟨kdx49, hkdx49, ekdx49⟩ := (mI_p i (p := p) (by omega)).1
      by_cases c50 : x49 = 1
      ·
        refine G_tsIn C 84 (1) c50 dX11_wishes_50 (by decide) rfl rfl ?_
        refine G_aload_n (i := 0) C 85 dX11_wishes_84 rfl rfl rfl ?_
        refine G_iload_n (i := 1) C 86 dX11_wishes_85 rfl rfl rfl ?_
        refine G_iload_n (i := 2) C 87 dX11_wishes_86 rfl rfl rfl ?_
        refine G_iload_n (i := 3) C 88 dX11_wishes_87 rfl rfl rfl ?_
        refine G_bipush (v := 10) C 90 dX11_wishes_88 rfl rfl ?_
        refine G_aload_n (i := 0) C 91 dX11_wishes_90 rfl rfl rfl ?_
        refine X11_13g C 94 dX11_wishes_91 rfl ?_
        refine G_iload_n (i := 1) C 95 dX11_wishes_94 rfl rfl rfl ?_
        refine G_iald (n := 6) C 96 (by decide) (eMk (by decide) _ _ _) (p) hx (by omega) (by decide) dX11_wishes_95 rfl (fun x95 ex95 => ?_)
        have Sx95 : x95 = P 7 p := ex95.trans (mI_7 i (by omega))
        refine G_imul C 97 dX11_wishes_96 rfl (fun x96 ex96 => ?_)
        refine G_calli 100 (G_runV C Kc_X11_motherWish KV_X11_173 (by omega) (by decide) (eM _ _ _) rfl (c_X11_motherWish 0 TX nT n l P s i x p hx (by omega) t tt ht (by omega) 0 (Or.inl rfl) x96) rfl rfl rfl (Nat.le_of_ble_eq_true rfl) rfl dX11_wishes_97) rfl (fun x97 s97 h97 => ?_)
        have i_1 : mI TX nT n l P s97 := mI_fr i (h97.1)
        have f_1 : Fr mM s s97 := Fr.tr f (h97.1)
        exact G_zret C (g_nb (by rw [h97.2]; split <;> first | exact Or.inr rfl | (split <;> first | exact Or.inl rfl | exact Or.inr rfl))) dX11_wishes_100 (⟨f_1, by
            have hz : x_bit (P 4 p) (nI tt) = 0 := by rw [← Sx9, ← ht]; exact x_bitN1 (by unfold x_bit; rw [← ex11, ← ex13]; exact c15)
            have hw : x_bit (P 3 p) (nI tt) = 0 := by rw [← Sx29, ← ht]; exact x_bitN1 (by unfold x_bit; rw [← ex31, ← ex33]; exact c35)
            have hk : P 6 p = 1 := Sx49.symm.trans c50
            unfold x_wishes x_wish x_kw
            rw [if_pos hz, hw, hk, if_pos rfl, h97.2, ex96, Sx95]
            rfl⟩)
      by_cases c50_1 : x49 = 2
      ·
        refine G_tsIn C 155 (2) c50_1 dX11_wishes_50 (by decide) rfl rfl ?_
        refine G_aload_n (i := 0) C 156 dX11_wishes_155 rfl rfl rfl ?_
        refine G_iload_n (i := 1) C 157 dX11_wishes_156 rfl rfl rfl ?_
        refine G_iload_n (i := 2) C 158 dX11_wishes_157 rfl rfl rfl ?_
        refine G_iload_n (i := 3) C 159 dX11_wishes_158 rfl rfl rfl ?_
        refine G_calli 162 (G_runV C Kc_X11_plainWish KV_X11_177 (by omega) (by decide) (eM _ _ _) rfl (c_X11_plainWish 0 TX nT n l P s i x p hx (by omega) t tt ht (by omega) 0 (Or.inl rfl)) rfl rfl rfl (Nat.le_of_ble_eq_true rfl) rfl dX11_wishes_159) rfl (fun x159 s159 h159 => ?_)
        have i_1 : mI TX nT n l P s159 := mI_fr i (h159.1)
        have f_1 : Fr mM s s159 := Fr.tr f (h159.1)
        exact G_zret C (g_nb (by rw [h159.2]; exact x_kwC01 _ _ _)) dX11_wishes_162 (⟨f_1, by
            have hz : x_bit (P 4 p) (nI tt) = 0 := by rw [← Sx9, ← ht]; exact x_bitN1 (by unfold x_bit; rw [← ex11, ← ex13]; exact c15)
            have hw : x_bit (P 3 p) (nI tt) = 0 := by rw [← Sx29, ← ht]; exact x_bitN1 (by unfold x_bit; rw [← ex31, ← ex33]; exact c35)
            have hk : P 6 p = 2 := Sx49.symm.trans c50_1
            unfold x_wishes x_wish x_kw
            rw [if_pos hz, hw, hk, if_neg (by decide), if_neg (by decide), if_neg (by decide), if_neg (by decide), h159.2]⟩)
      by_cases c50_2 : x49 = 3
      ·
        refine G_tsIn C 101 (3) c50_2 dX11_wishes_50 (by decide) rfl rfl ?_
        refine G_aload_n (i := 0) C 102 dX11_wishes_101 rfl rfl rfl ?_
        refine X11_19g C 105 dX11_wishes_102 rfl ?_
        refine G_iconst (v := 0) C 106 dX11_wishes_105 rfl rfl ?_
        refine G_iald (n := 13) C 107 (by decide) (eMk (by decide) _ _ _) (0) rfl (by omega) (by decide) dX11_wishes_106 rfl (fun x106 ex106 => ?_)
        have Sx106 : x106 = P 0 0 := ex106.trans (mI_v i 0 0)
        refine G_iconst (v := 2) C 108 dX11_wishes_107 rfl rfl ?_
        refine G_irem C 109 dX11_wishes_108 rfl (by decide) (fun x108 ex108 => ?_)
        refine G_if_ne C 135 112 dX11_wishes_109 rfl rfl (fun c109 => ?_) (fun c109 => ?_)
        ·
          refine G_iconst (v := 0) C 136 dX11_wishes_135 rfl rfl ?_
          exact G_zret C rfl dX11_wishes_136 (⟨f, by
              have hz : x_bit (P 4 p) (nI tt) = 0 := by rw [← Sx9, ← ht]; exact x_bitN1 (by unfold x_bit; rw [← ex11, ← ex13]; exact c15)
              have hw : x_bit (P 3 p) (nI tt) = 0 := by rw [← Sx29, ← ht]; exact x_bitN1 (by unfold x_bit; rw [← ex31, ← ex33]; exact c35)
              have hk : P 6 p = 3 := Sx49.symm.trans c50_2
              unfold x_wishes x_wish x_kw
              rw [if_pos hz, hw, hk, if_neg (by decide), if_pos rfl, if_neg (by rw [← Sx106, ← ex108]; exact c109)]⟩)
        ·
          refine G_aload_n (i := 0) C 113 dX11_wishes_112 rfl rfl rfl ?_
          refine G_iload_n (i := 1) C 114 dX11_wishes_113 rfl rfl rfl ?_
          refine G_iload_n (i := 2) C 115 dX11_wishes_114 rfl rfl rfl ?_
          refine G_iload_n (i := 3) C 116 dX11_wishes_115 rfl rfl rfl ?_
          refine G_bipush (v := 11) C 118 dX11_wishes_116 rfl rfl ?_
          refine G_aload_n (i := 0) C 119 dX11_wishes_118 rfl rfl rfl ?_
          refine X11_13g C 122 dX11_wishes_119 rfl ?_
          refine G_iload_n (i := 1) C 123 dX11_wishes_122 rfl rfl rfl ?_
          refine G_iald (n := 6) C 124 (by decide) (eMk (by decide) _ _ _) (p) hx (by omega) (by decide) dX11_wishes_123 rfl (fun x123 ex123 => ?_)
          have Sx123 : x123 = P 7 p := ex123.trans (mI_7 i (by omega))
          refine G_imul C 125 dX11_wishes_124 rfl (fun x124 ex124 => ?_)
          refine G_calli 128 (G_runV C Kc_X11_motherWish KV_X11_173 (by omega) (by decide) (eM _ _ _) rfl (c_X11_motherWish 0 TX nT n l P s i x p hx (by omega) t tt ht (by omega) 0 (Or.inl rfl) x124) rfl rfl rfl (Nat.le_of_ble_eq_true rfl) rfl dX11_wishes_125) rfl (fun x125 s125 h125 => ?_)
          have i_1 : mI TX nT n l P s125 := mI_fr i (h125.1)
          have f_1 : Fr mM s s125 := Fr.tr f (h125.1)
          refine G_if_eq C 135 131 dX11_wishes_128 rfl rfl (fun c128 => ?_) (fun c128 => ?_)
          ·
            refine G_iconst (v := 0) C 136 dX11_wishes_135 rfl rfl ?_
            exact G_zret C rfl dX11_wishes_136 (⟨f_1, by
                have hz : x_bit (P 4 p) (nI tt) = 0 := by rw [← Sx9, ← ht]; exact x_bitN1 (by unfold x_bit; rw [← ex11, ← ex13]; exact c15)
                have hw : x_bit (P 3 p) (nI tt) = 0 := by rw [← Sx29, ← ht]; exact x_bitN1 (by unfold x_bit; rw [← ex31, ← ex33]; exact c35)
                have hk : P 6 p = 3 := Sx49.symm.trans c50_2
                unfold x_wishes x_wish x_kw
                rw [if_pos hz, hw, hk, if_neg (by decide), if_pos rfl, if_pos (by rw [← Sx106, ← ex108]; exact c109)]
                unfold x_kwM
                rw [y_wife, ← Sx123, ← ex124, ← h125.2]
                exact c128.symm⟩)
          ·
            refine G_iconst (v := 1) C 132 dX11_wishes_131 rfl rfl ?_
            refine G_goto C 136 dX11_wishes_132 rfl ?_
            exact G_zret C rfl dX11_wishes_136 (⟨f_1, by
                have hz : x_bit (P 4 p) (nI tt) = 0 := by rw [← Sx9, ← ht]; exact x_bitN1 (by unfold x_bit; rw [← ex11, ← ex13]; exact c15)
                have hw : x_bit (P 3 p) (nI tt) = 0 := by rw [← Sx29, ← ht]; exact x_bitN1 (by unfold x_bit; rw [← ex31, ← ex33]; exact c35)
                have hk : P 6 p = 3 := Sx49.symm.trans c50_2
                unfold x_wishes x_wish x_kw
                rw [if_pos hz, hw, hk, if_neg (by decide), if_pos rfl, if_pos (by rw [← Sx106, ← ex108]; exact c109)]
                unfold x_kwM
                rw [y_wife, ← Sx123, ← ex124, ← h125.2]
                rw [h125.2] at c128 ⊢
                revert c128
                split <;> first | (intro _; rfl) | (split <;> first | (intro _; rfl) | (intro q; exact absurd rfl q))⟩)
      by_cases c50_3 : x49 = 4
      ·
        refine G_tsIn C 137 (4) c50_3 dX11_wishes_50 (by decide) rfl rfl ?_
        refine G_aload_n (i := 0) C 138 dX11_wishes_137 rfl rfl rfl ?_
        refine G_iload_n (i := 1) C 139 dX11_wishes_138 rfl rfl rfl ?_
        refine G_iload_n (i := 2) C 140 dX11_wishes_139 rfl rfl rfl ?_
        refine G_iload_n (i := 3) C 141 dX11_wishes_140 rfl rfl rfl ?_
        refine G_calli 144 (G_runV C Kc_X11_plainWish KV_X11_177 (by omega) (by decide) (eM _ _ _) rfl (c_X11_plainWish 0 TX nT n l P s i x p hx (by omega) t tt ht (by omega) 0 (Or.inl rfl)) rfl rfl rfl (Nat.le_of_ble_eq_true rfl) rfl dX11_wishes_141) rfl (fun x141 s141 h141 => ?_)
        have i_1 : mI TX nT n l P s141 := mI_fr i (h141.1)
        have f_1 : Fr mM s s141 := Fr.tr f (h141.1)
        refine G_if_ne C 151 147 dX11_wishes_144 rfl rfl (fun c144 => ?_) (fun c144 => ?_)
        ·
          refine G_iconst (v := 0) C 152 dX11_wishes_151 rfl rfl ?_
          exact G_zret C rfl dX11_wishes_152 (⟨f_1, by
              have hz : x_bit (P 4 p) (nI tt) = 0 := by rw [← Sx9, ← ht]; exact x_bitN1 (by unfold x_bit; rw [← ex11, ← ex13]; exact c15)
              have hw : x_bit (P 3 p) (nI tt) = 0 := by rw [← Sx29, ← ht]; exact x_bitN1 (by unfold x_bit; rw [← ex31, ← ex33]; exact c35)
              have hk : P 6 p = 4 := Sx49.symm.trans c50_3
              unfold x_wishes x_wish x_kw
              rw [if_pos hz, hw, hk, if_neg (by decide), if_neg (by decide), if_pos rfl, ← h141.2, if_neg c144]⟩)
        ·
          refine G_iconst (v := 1) C 148 dX11_wishes_147 rfl rfl ?_
          refine G_goto C 152 dX11_wishes_148 rfl ?_
          exact G_zret C rfl dX11_wishes_152 (⟨f_1, by
              have hz : x_bit (P 4 p) (nI tt) = 0 := by rw [← Sx9, ← ht]; exact x_bitN1 (by unfold x_bit; rw [← ex11, ← ex13]; exact c15)
              have hw : x_bit (P 3 p) (nI tt) = 0 := by rw [← Sx29, ← ht]; exact x_bitN1 (by unfold x_bit; rw [← ex31, ← ex33]; exact c35)
              have hk : P 6 p = 4 := Sx49.symm.trans c50_3
              unfold x_wishes x_wish x_kw
              rw [if_pos hz, hw, hk, if_neg (by decide), if_neg (by decide), if_pos rfl, ← h141.2, if_pos c144]⟩)
      by_cases c50_4 : x49 = 5
      ·
        refine G_tsIn C 153 (5) c50_4 dX11_wishes_50 (by decide) rfl rfl ?_
        refine G_iconst (v := 0) C 154 dX11_wishes_153 rfl rfl ?_
        exact G_zret C rfl dX11_wishes_154 (⟨f, by
            have hz : x_bit (P 4 p) (nI tt) = 0 := by rw [← Sx9, ← ht]; exact x_bitN1 (by unfold x_bit; rw [← ex11, ← ex13]; exact c15)
            have hw : x_bit (P 3 p) (nI tt) = 0 := by rw [← Sx29, ← ht]; exact x_bitN1 (by unfold x_bit; rw [← ex31, ← ex33]; exact c35)
            have hk : P 6 p = 5 := Sx49.symm.trans c50_4
            unfold x_wishes x_wish x_kw
            rw [if_pos hz, hw, hk, if_neg (by decide), if_neg (by decide), if_neg (by decide), if_pos rfl]⟩)
      refine G_tsOut C 155 dX11_wishes_50 (by
        have e1 := g_ti (k := 1) 1 rfl c50
        have e2 := g_ti (k := 2) 2 rfl c50_1
        have e3 := g_ti (k := 3) 3 rfl c50_2
        have e4 := g_ti (k := 4) 4 rfl c50_3
        have e5 := g_ti (k := 5) 5 rfl c50_4
        omega) rfl ?_
      refine G_aload_n (i := 0) C 156 dX11_wishes_155 rfl rfl rfl ?_
      refine G_iload_n (i := 1) C 157 dX11_wishes_156 rfl rfl rfl ?_
      refine G_iload_n (i := 2) C 158 dX11_wishes_157 rfl rfl rfl ?_
      refine G_iload_n (i := 3) C 159 dX11_wishes_158 rfl rfl rfl ?_
      refine G_calli 162 (G_runV C Kc_X11_plainWish KV_X11_177 (by omega) (by decide) (eM _ _ _) rfl (c_X11_plainWish 0 TX nT n l P s i x p hx (by omega) t tt ht (by omega) 0 (Or.inl rfl)) rfl rfl rfl (Nat.le_of_ble_eq_true rfl) rfl dX11_wishes_159) rfl (fun x159 s159 h159 => ?_)
      have i_1 : mI TX nT n l P s159 := mI_fr i (h159.1)
      have f_1 : Fr mM s s159 := Fr.tr f (h159.1)
      exact G_zret C (g_nb (by rw [h159.2]; exact x_kwC01 _ _ _)) dX11_wishes_162 (⟨f_1, by
          have hz : x_bit (P 4 p) (nI tt) = 0 := by rw [← Sx9, ← ht]; exact x_bitN1 (by unfold x_bit; rw [← ex11, ← ex13]; exact c15)
          have hw : x_bit (P 3 p) (nI tt) = 0 := by rw [← Sx29, ← ht]; exact x_bitN1 (by unfold x_bit; rw [← ex31, ← ex33]; exact c35)
          unfold x_wishes x_wish x_kw
          rw [if_pos hz, hw, ← Sx49, if_neg c50, if_neg c50_2, if_neg c50_3, if_neg c50_4, h159.2]⟩)
    ·
      refine G_iconst (v := 1) C 39 dX11_wishes_38 rfl rfl ?_
      refine G_goto C 43 dX11_wishes_39 rfl ?_
      refine G_istore_n (i := 3) (L' := [some (.ref (e_ad E 0)), some (.int x), some (.int t), some (.int 1)]) C 44 dX11_wishes_43 rfl rfl (Nat.le_of_ble_eq_true rfl) rfl rfl ?_
      refine G_aload_n (i := 0) C 45 dX11_wishes_44 rfl rfl rfl ?_
      refine X11_7g C 48 dX11_wishes_45 rfl ?_
      refine G_iload_n (i := 1) C 49 dX11_wishes_48 rfl rfl rfl ?_
      refine G_iald (n := 6) C 50 (by decide) (eMk (by decide) _ _ _) (p) hx (by omega) (by decide) dX11_wishes_49 rfl (fun x49 ex49 => ?_)
      have Sx49 : x49 = P 6 p := ex49.trans (mI_6 i (by omega))
      obtain ⟨kdx49, hkdx49, ekdx49⟩ := (mI_p i (p := p) (by omega)).1
      by_cases c50 : x49 = 1
      ·
        refine G_tsIn C 84 (1) c50 dX11_wishes_50 (by decide) rfl rfl ?_
        refine G_aload_n (i := 0) C 85 dX11_wishes_84 rfl rfl rfl ?_
        refine G_iload_n (i := 1) C 86 dX11_wishes_85 rfl rfl rfl ?_
        refine G_iload_n (i := 2) C 87 dX11_wishes_86 rfl rfl rfl ?_
        refine G_iload_n (i := 3) C 88 dX11_wishes_87 rfl rfl rfl ?_
        refine G_bipush (v := 10) C 90 dX11_wishes_88 rfl rfl ?_
        refine G_aload_n (i := 0) C 91 dX11_wishes_90 rfl rfl rfl ?_
        refine X11_13g C 94 dX11_wishes_91 rfl ?_
        refine G_iload_n (i := 1) C 95 dX11_wishes_94 rfl rfl rfl ?_
        refine G_iald (n := 6) C 96 (by decide) (eMk (by decide) _ _ _) (p) hx (by omega) (by decide) dX11_wishes_95 rfl (fun x95 ex95 => ?_)
        have Sx95 : x95 = P 7 p := ex95.trans (mI_7 i (by omega))
        refine G_imul C 97 dX11_wishes_96 rfl (fun x96 ex96 => ?_)
        refine G_calli 100 (G_runV C Kc_X11_motherWish KV_X11_173 (by omega) (by decide) (eM _ _ _) rfl (c_X11_motherWish 0 TX nT n l P s i x p hx (by omega) t tt ht (by omega) 1 (Or.inr rfl) x96) rfl rfl rfl (Nat.le_of_ble_eq_true rfl) rfl dX11_wishes_97) rfl (fun x97 s97 h97 => ?_)
        have i_1 : mI TX nT n l P s97 := mI_fr i (h97.1)
        have f_1 : Fr mM s s97 := Fr.tr f (h97.1)
        exact G_zret C (g_nb (by rw [h97.2]; split <;> first | exact Or.inr rfl | (split <;> first | exact Or.inl rfl | exact Or.inr rfl))) dX11_wishes_100 (⟨f_1, by
            have hz : x_bit (P 4 p) (nI tt) = 0 := by rw [← Sx9, ← ht]; exact x_bitN1 (by unfold x_bit; rw [← ex11, ← ex13]; exact c15)
            have hw : x_bit (P 3 p) (nI tt) = 1 := by rw [← Sx29, ← ht]; unfold x_bit; rw [← ex31, ← ex33]; exact c35
            have hk : P 6 p = 1 := Sx49.symm.trans c50
            unfold x_wishes x_wish x_kw
            rw [if_pos hz, hw, hk, if_pos rfl, h97.2, ex96, Sx95]
            rfl⟩)
      by_cases c50_1 : x49 = 2
      ·
        refine G_tsIn C 155 (2) c50_1 dX11_wishes_50 (by decide) rfl rfl ?_
        refine G_aload_n (i := 0) C 156 dX11_wishes_155 rfl rfl rfl ?_
        refine G_iload_n (i := 1) C 157 dX11_wishes_156 rfl rfl rfl ?_
        refine G_iload_n (i := 2) C 158 dX11_wishes_157 rfl rfl rfl ?_
        refine G_iload_n (i := 3) C 159 dX11_wishes_158 rfl rfl rfl ?_
        refine G_calli 162 (G_runV C Kc_X11_plainWish KV_X11_177 (by omega) (by decide) (eM _ _ _) rfl (c_X11_plainWish 0 TX nT n l P s i x p hx (by omega) t tt ht (by omega) 1 (Or.inr rfl)) rfl rfl rfl (Nat.le_of_ble_eq_true rfl) rfl dX11_wishes_159) rfl (fun x159 s159 h159 => ?_)
        have i_1 : mI TX nT n l P s159 := mI_fr i (h159.1)
        have f_1 : Fr mM s s159 := Fr.tr f (h159.1)
        exact G_zret C (g_nb (by rw [h159.2]; exact x_kwC01 _ _ _)) dX11_wishes_162 (⟨f_1, by
            have hz : x_bit (P 4 p) (nI tt) = 0 := by rw [← Sx9, ← ht]; exact x_bitN1 (by unfold x_bit; rw [← ex11, ← ex13]; exact c15)
            have hw : x_bit (P 3 p) (nI tt) = 1 := by rw [← Sx29, ← ht]; unfold x_bit; rw [← ex31, ← ex33]; exact c35
            have hk : P 6 p = 2 := Sx49.symm.trans c50_1
            unfold x_wishes x_wish x_kw
            rw [if_pos hz, hw, hk, if_neg (by decide), if_neg (by decide), if_neg (by decide), if_neg (by decide), h159.2]⟩)
      by_cases c50_2 : x49 = 3
      ·
        refine G_tsIn C 101 (3) c50_2 dX11_wishes_50 (by decide) rfl rfl ?_
        refine G_aload_n (i := 0) C 102 dX11_wishes_101 rfl rfl rfl ?_
        refine X11_19g C 105 dX11_wishes_102 rfl ?_
        refine G_iconst (v := 0) C 106 dX11_wishes_105 rfl rfl ?_
        refine G_iald (n := 13) C 107 (by decide) (eMk (by decide) _ _ _) (0) rfl (by omega) (by decide) dX11_wishes_106 rfl (fun x106 ex106 => ?_)
        have Sx106 : x106 = P 0 0 := ex106.trans (mI_v i 0 0)
        refine G_iconst (v := 2) C 108 dX11_wishes_107 rfl rfl ?_
        refine G_irem C 109 dX11_wishes_108 rfl (by decide) (fun x108 ex108 => ?_)
        refine G_if_ne C 135 112 dX11_wishes_109 rfl rfl (fun c109 => ?_) (fun c109 => ?_)
        ·
          refine G_iconst (v := 0) C 136 dX11_wishes_135 rfl rfl ?_
          exact G_zret C rfl dX11_wishes_136 (⟨f, by
              have hz : x_bit (P 4 p) (nI tt) = 0 := by rw [← Sx9, ← ht]; exact x_bitN1 (by unfold x_bit; rw [← ex11, ← ex13]; exact c15)
              have hw : x_bit (P 3 p) (nI tt) = 1 := by rw [← Sx29, ← ht]; unfold x_bit; rw [← ex31, ← ex33]; exact c35
              have hk : P 6 p = 3 := Sx49.symm.trans c50_2
              unfold x_wishes x_wish x_kw
              rw [if_pos hz, hw, hk, if_neg (by decide), if_pos rfl, if_neg (by rw [← Sx106, ← ex108]; exact c109)]⟩)
        ·
          refine G_aload_n (i := 0) C 113 dX11_wishes_112 rfl rfl rfl ?_
          refine G_iload_n (i := 1) C 114 dX11_wishes_113 rfl rfl rfl ?_
          refine G_iload_n (i := 2) C 115 dX11_wishes_114 rfl rfl rfl ?_
          refine G_iload_n (i := 3) C 116 dX11_wishes_115 rfl rfl rfl ?_
          refine G_bipush (v := 11) C 118 dX11_wishes_116 rfl rfl ?_
          refine G_aload_n (i := 0) C 119 dX11_wishes_118 rfl rfl rfl ?_
          refine X11_13g C 122 dX11_wishes_119 rfl ?_
          refine G_iload_n (i := 1) C 123 dX11_wishes_122 rfl rfl rfl ?_
          refine G_iald (n := 6) C 124 (by decide) (eMk (by decide) _ _ _) (p) hx (by omega) (by decide) dX11_wishes_123 rfl (fun x123 ex123 => ?_)
          have Sx123 : x123 = P 7 p := ex123.trans (mI_7 i (by omega))
          refine G_imul C 125 dX11_wishes_124 rfl (fun x124 ex124 => ?_)
          refine G_calli 128 (G_runV C Kc_X11_motherWish KV_X11_173 (by omega) (by decide) (eM _ _ _) rfl (c_X11_motherWish 0 TX nT n l P s i x p hx (by omega) t tt ht (by omega) 1 (Or.inr rfl) x124) rfl rfl rfl (Nat.le_of_ble_eq_true rfl) rfl dX11_wishes_125) rfl (fun x125 s125 h125 => ?_)
          have i_1 : mI TX nT n l P s125 := mI_fr i (h125.1)
          have f_1 : Fr mM s s125 := Fr.tr f (h125.1)
          refine G_if_eq C 135 131 dX11_wishes_128 rfl rfl (fun c128 => ?_) (fun c128 => ?_)
          ·
            refine G_iconst (v := 0) C 136 dX11_wishes_135 rfl rfl ?_
            exact G_zret C rfl dX11_wishes_136 (⟨f_1, by
                have hz : x_bit (P 4 p) (nI tt) = 0 := by rw [← Sx9, ← ht]; exact x_bitN1 (by unfold x_bit; rw [← ex11, ← ex13]; exact c15)
                have hw : x_bit (P 3 p) (nI tt) = 1 := by rw [← Sx29, ← ht]; unfold x_bit; rw [← ex31, ← ex33]; exact c35
                have hk : P 6 p = 3 := Sx49.symm.trans c50_2
                unfold x_wishes x_wish x_kw
                rw [if_pos hz, hw, hk, if_neg (by decide), if_pos rfl, if_pos (by rw [← Sx106, ← ex108]; exact c109)]
                unfold x_kwM
                rw [y_wife, ← Sx123, ← ex124, ← h125.2]
                exact c128.symm⟩)
          ·
            refine G_iconst (v := 1) C 132 dX11_wishes_131 rfl rfl ?_
            refine G_goto C 136 dX11_wishes_132 rfl ?_
            exact G_zret C rfl dX11_wishes_136 (⟨f_1, by
                have hz : x_bit (P 4 p) (nI tt) = 0 := by rw [← Sx9, ← ht]; exact x_bitN1 (by unfold x_bit; rw [← ex11, ← ex13]; exact c15)
                have hw : x_bit (P 3 p) (nI tt) = 1 := by rw [← Sx29, ← ht]; unfold x_bit; rw [← ex31, ← ex33]; exact c35
                have hk : P 6 p = 3 := Sx49.symm.trans c50_2
                unfold x_wishes x_wish x_kw
                rw [if_pos hz, hw, hk, if_neg (by decide), if_pos rfl, if_pos (by rw [← Sx106, ← ex108]; exact c109)]
                unfold x_kwM
                rw [y_wife, ← Sx123, ← ex124, ← h125.2]
                rw [h125.2] at c128 ⊢
                revert c128
                split <;> first | (intro _; rfl) | (split <;> first | (intro _; rfl) | (intro q; exact absurd rfl q))⟩)
      by_cases c50_3 : x49 = 4
      ·
        refine G_tsIn C 137 (4) c50_3 dX11_wishes_50 (by decide) rfl rfl ?_
        refine G_aload_n (i := 0) C 138 dX11_wishes_137 rfl rfl rfl ?_
        refine G_iload_n (i := 1) C 139 dX11_wishes_138 rfl rfl rfl ?_
        refine G_iload_n (i := 2) C 140 dX11_wishes_139 rfl rfl rfl ?_
        refine G_iload_n (i := 3) C 141 dX11_wishes_140 rfl rfl rfl ?_
        refine G_calli 144 (G_runV C Kc_X11_plainWish KV_X11_177 (by omega) (by decide) (eM _ _ _) rfl (c_X11_plainWish 0 TX nT n l P s i x p hx (by omega) t tt ht (by omega) 1 (Or.inr rfl)) rfl rfl rfl (Nat.le_of_ble_eq_true rfl) rfl dX11_wishes_141) rfl (fun x141 s141 h141 => ?_)
        have i_1 : mI TX nT n l P s141 := mI_fr i (h141.1)
        have f_1 : Fr mM s s141 := Fr.tr f (h141.1)
        refine G_if_ne C 151 147 dX11_wishes_144 rfl rfl (fun c144 => ?_) (fun c144 => ?_)
        ·
          refine G_iconst (v := 0) C 152 dX11_wishes_151 rfl rfl ?_
          exact G_zret C rfl dX11_wishes_152 (⟨f_1, by
              have hz : x_bit (P 4 p) (nI tt) = 0 := by rw [← Sx9, ← ht]; exact x_bitN1 (by unfold x_bit; rw [← ex11, ← ex13]; exact c15)
              have hw : x_bit (P 3 p) (nI tt) = 1 := by rw [← Sx29, ← ht]; unfold x_bit; rw [← ex31, ← ex33]; exact c35
              have hk : P 6 p = 4 := Sx49.symm.trans c50_3
              unfold x_wishes x_wish x_kw
              rw [if_pos hz, hw, hk, if_neg (by decide), if_neg (by decide), if_pos rfl, ← h141.2, if_neg c144]⟩)
        ·
          refine G_iconst (v := 1) C 148 dX11_wishes_147 rfl rfl ?_
          refine G_goto C 152 dX11_wishes_148 rfl ?_
          exact G_zret C rfl dX11_wishes_152 (⟨f_1, by
              have hz : x_bit (P 4 p) (nI tt) = 0 := by rw [← Sx9, ← ht]; exact x_bitN1 (by unfold x_bit; rw [← ex11, ← ex13]; exact c15)
              have hw : x_bit (P 3 p) (nI tt) = 1 := by rw [← Sx29, ← ht]; unfold x_bit; rw [← ex31, ← ex33]; exact c35
              have hk : P 6 p = 4 := Sx49.symm.trans c50_3
              unfold x_wishes x_wish x_kw
              rw [if_pos hz, hw, hk, if_neg (by decide), if_neg (by decide), if_pos rfl, ← h141.2, if_pos c144]⟩)
      by_cases c50_4 : x49 = 5
      ·
        refine G_tsIn C 153 (5) c50_4 dX11_wishes_50 (by decide) rfl rfl ?_
        refine G_iconst (v := 0) C 154 dX11_wishes_153 rfl rfl ?_
        exact G_zret C rfl dX11_wishes_154 (⟨f, by
            have hz : x_bit (P 4 p) (nI tt) = 0 := by rw [← Sx9, ← ht]; exact x_bitN1 (by unfold x_bit; rw [← ex11, ← ex13]; exact c15)
            have hw : x_bit (P 3 p) (nI tt) = 1 := by rw [← Sx29, ← ht]; unfold x_bit; rw [← ex31, ← ex33]; exact c35
            have hk : P 6 p = 5 := Sx49.symm.trans c50_4
            unfold x_wishes x_wish x_kw
            rw [if_pos hz, hw, hk, if_neg (by decide), if_neg (by decide), if_neg (by decide), if_pos rfl]⟩)
      refine G_tsOut C 155 dX11_wishes_50 (by
        have e1 := g_ti (k := 1) 1 rfl c50
        have e2 := g_ti (k := 2) 2 rfl c50_1
        have e3 := g_ti (k := 3) 3 rfl c50_2
        have e4 := g_ti (k := 4) 4 rfl c50_3
        have e5 := g_ti (k := 5) 5 rfl c50_4
        omega) rfl ?_
      refine G_aload_n (i := 0) C 156 dX11_wishes_155 rfl rfl rfl ?_
      refine G_iload_n (i := 1) C 157 dX11_wishes_156 rfl rfl rfl ?_
      refine G_iload_n (i := 2) C 158 dX11_wishes_157 rfl rfl rfl ?_
      refine G_iload_n (i := 3) C 159 dX11_wishes_158 rfl rfl rfl ?_
      refine G_calli 162 (G_runV C Kc_X11_plainWish KV_X11_177 (by omega) (by decide) (eM _ _ _) rfl (c_X11_plainWish 0 TX nT n l P s i x p hx (by omega) t tt ht (by omega) 1 (Or.inr rfl)) rfl rfl rfl (Nat.le_of_ble_eq_true rfl) rfl dX11_wishes_159) rfl (fun x159 s159 h159 => ?_)
      have i_1 : mI TX nT n l P s159 := mI_fr i (h159.1)
      have f_1 : Fr mM s s159 := Fr.tr f (h159.1)
      exact G_zret C (g_nb (by rw [h159.2]; exact x_kwC01 _ _ _)) dX11_wishes_162 (⟨f_1, by
          have hz : x_bit (P 4 p) (nI tt) = 0 := by rw [← Sx9, ← ht]; exact x_bitN1 (by unfold x_bit; rw [← ex11, ← ex13]; exact c15)
          have hw : x_bit (P 3 p) (nI tt) = 1 := by rw [← Sx29, ← ht]; unfold x_bit; rw [← ex31, ← ex33]; exact c35
          unfold x_wishes x_wish x_kw
          rw [if_pos hz, hw, ← Sx49, if_neg c50, if_neg c50_2, if_neg c50_3, if_neg c50_4, h159.2]⟩)
  ·
    refine G_iconst (v := 0) C 19 dX11_wishes_18 rfl rfl ?_
    exact G_zret C rfl dX11_wishes_19 (⟨f, by unfold x_wishes; rw [if_neg (by rw [← Sx9, ← ht]; unfold x_bit; rw [← ex11, ← ex13, c15]; decide)]⟩)
theorem dX11_wishSet_0 : decode cX11_wishSet 0 = .ok (.iconst 0, 1) := by decide +kernel
theorem dX11_wishSet_1 : decode cX11_wishSet 1 = .ok (.istore_n 3, 1) := by decide +kernel
theorem dX11_wishSet_2 : decode cX11_wishSet 2 = .ok (.iconst 0, 1) := by decide +kernel
theorem dX11_wishSet_3 : decode cX11_wishSet 3 = .ok (.istore 4, 2) := by decide +kernel
theorem dX11_wishSet_5 : decode cX11_wishSet 5 = .ok (.iload 4, 2) := by decide +kernel
theorem dX11_wishSet_7 : decode cX11_wishSet 7 = .ok (.bipush 10, 2) := by decide +kernel
theorem dX11_wishSet_9 : decode cX11_wishSet 9 = .ok (.if_icmp .ge 40, 3) := by decide +kernel
theorem dX11_wishSet_12 : decode cX11_wishSet 12 = .ok (.iload_n 2, 1) := by decide +kernel
theorem dX11_wishSet_13 : decode cX11_wishSet 13 = .ok (.iload 4, 2) := by decide +kernel
theorem dX11_wishSet_15 : decode cX11_wishSet 15 = .ok (.ishr, 1) := by decide +kernel
theorem dX11_wishSet_16 : decode cX11_wishSet 16 = .ok (.iconst 1, 1) := by decide +kernel
theorem dX11_wishSet_17 : decode cX11_wishSet 17 = .ok (.iand, 1) := by decide +kernel
theorem dX11_wishSet_18 : decode cX11_wishSet 18 = .ok (.iconst 1, 1) := by decide +kernel
theorem dX11_wishSet_19 : decode cX11_wishSet 19 = .ok (.if_icmp .ne 24, 3) := by decide +kernel
theorem dX11_wishSet_22 : decode cX11_wishSet 22 = .ok (.iload_n 3, 1) := by decide +kernel
theorem dX11_wishSet_23 : decode cX11_wishSet 23 = .ok (.aload_n 0, 1) := by decide +kernel
theorem dX11_wishSet_24 : decode cX11_wishSet 24 = .ok (.iload_n 1, 1) := by decide +kernel
theorem dX11_wishSet_25 : decode cX11_wishSet 25 = .ok (.iload 4, 2) := by decide +kernel
theorem dX11_wishSet_27 : decode cX11_wishSet 27 = .ok (.invokevirtual 181, 3) := by decide +kernel
theorem dX11_wishSet_30 : decode cX11_wishSet 30 = .ok (.ifCond .eq 10, 3) := by decide +kernel
theorem dX11_wishSet_33 : decode cX11_wishSet 33 = .ok (.iconst 1, 1) := by decide +kernel
theorem dX11_wishSet_34 : decode cX11_wishSet 34 = .ok (.iload 4, 2) := by decide +kernel
theorem dX11_wishSet_36 : decode cX11_wishSet 36 = .ok (.ishl, 1) := by decide +kernel
theorem dX11_wishSet_37 : decode cX11_wishSet 37 = .ok (.goto 4, 3) := by decide +kernel
theorem dX11_wishSet_40 : decode cX11_wishSet 40 = .ok (.iconst 0, 1) := by decide +kernel
theorem dX11_wishSet_41 : decode cX11_wishSet 41 = .ok (.ior, 1) := by decide +kernel
theorem dX11_wishSet_42 : decode cX11_wishSet 42 = .ok (.istore_n 3, 1) := by decide +kernel
theorem dX11_wishSet_43 : decode cX11_wishSet 43 = .ok (.iinc 4 1, 3) := by decide +kernel
theorem dX11_wishSet_46 : decode cX11_wishSet 46 = .ok (.goto (-41), 3) := by decide +kernel
theorem dX11_wishSet_49 : decode cX11_wishSet 49 = .ok (.iload_n 3, 1) := by decide +kernel
theorem dX11_wishSet_50 : decode cX11_wishSet 50 = .ok (.ireturn, 1) := by decide +kernel
set_option maxHeartbeats 4000000 in
set_option maxRecDepth 100000 in
theorem c_X11_wishSet (d : Nat) (TX : gTX) (nT n l : Nat) (P s : gS) (hI : mI TX nT n l P s) (x : Int32) (p : Nat) (hx : x = nI p) (hp : p < n) (of : Int32) : gMt SM yX11_wishSet cX11_wishSet 5 (some .int) (d + 7) (fun ad => [.ref (ad 0), .int x, .int of]) s (gQi SM (fun r s' => Fr mM s s' ∧ r = x_wset TX P p of 10)) := by
  have hn6 : n ≤ 6 := hI.2.1.2.1
  have hl6 : l < 6 := mI_l6 hI
  refine gMt_of SM_ok (by decide +kernel) (fun ad => [some (.ref (ad 0)), some (.int x), some (.int of), none, none]) (fun _ => rfl) (fun _ => rfl) (fun _ => Nat.le_of_ble_eq_true rfl) (fun E C0 => ?_)
  have C : gCx SM E RX11 cX11_wishSet 5 (some .int) (d + 7) := C0
  have i : mI TX nT n l P s := hI
  have f : Fr mM s s := Fr.rf
  refine G_iconst (v := 0) C 1 dX11_wishSet_0 rfl rfl ?_
  refine G_istore_n (i := 3) (L' := [some (.ref (e_ad E 0)), some (.int x), some (.int of), some (.int 0), none]) C 2 dX11_wishSet_1 rfl rfl (Nat.le_of_ble_eq_true rfl) rfl rfl ?_
  refine G_iconst (v := 0) C 3 dX11_wishSet_2 rfl rfl ?_
  refine G_istore (L' := [some (.ref (e_ad E 0)), some (.int x), some (.int of), some (.int 0), some (.int 0)]) C 5 dX11_wishSet_3 rfl (Nat.le_of_ble_eq_true rfl) rfl rfl ?_
  have L5 : ∀ (f5 : Nat) (k : Nat) (a y : Int32) (sl5 : gS) (Ey : y = nI k) (hk : k ≤ 10) (ha : a = x_wset TX P p of k) (il5 : mI TX nT n l P sl5) (fl5 : Fr mM s sl5), 10 < k + f5 → GW SM E (gFin SM E (gQi SM (fun r s' => Fr mM s s' ∧ r = x_wset TX P p of 10))) 5 [some (.ref (e_ad E 0)), some (.int x), some (.int of), some (.int a), some (.int y)] [] sl5 := by
    intro f5
    induction f5 with
    | zero =>
      intro k a y sl5 Ey hk ha il5 fl5 hf5
      exact absurd hf5 (by omega)
    | succ f5 ih5 =>
      intro k a y sl5 Ey hk ha il5 fl5 hf5
      refine G_iload C 7 dX11_wishSet_5 rfl rfl ?_
      refine G_bipush (v := 10) C 9 dX11_wishSet_7 rfl rfl ?_
      refine G_icmp_ge C 49 12 dX11_wishSet_9 rfl rfl (fun c9 => ?_) (fun c9 => ?_)
      ·
        have n9 : ¬ k < 10 := fun h => c9 ((g_ltN (a := k) (b := 10) (hx := Ey) (hy := rfl) (by omega) (by omega)).mpr h)
        refine G_iload_n (i := 3) C 50 dX11_wishSet_49 rfl rfl rfl ?_
        exact G_iret C dX11_wishSet_50 (⟨fl5, by rw [ha, show k = 10 by omega]⟩)
      ·
        have n9 : k < 10 := (g_ltN (a := k) (b := 10) (hx := Ey) (hy := rfl) (by omega) (by omega)).mp c9
        refine G_iload_n (i := 2) C 13 dX11_wishSet_12 rfl rfl rfl ?_
        refine G_iload C 15 dX11_wishSet_13 rfl rfl ?_
        refine G_ishr C 16 dX11_wishSet_15 rfl (fun x15 ex15 => ?_)
        refine G_iconst (v := 1) C 17 dX11_wishSet_16 rfl rfl ?_
        refine G_iand C 18 dX11_wishSet_17 rfl (fun x17 ex17 => ?_)
        refine G_iconst (v := 1) C 19 dX11_wishSet_18 rfl rfl ?_
        refine G_icmp_ne C 43 22 dX11_wishSet_19 rfl rfl (fun c19 => ?_) (fun c19 => ?_)
        ·
          refine G_iinc (w := 1) C 46 dX11_wishSet_43 rfl rfl rfl rfl (fun x43 ex43 => ?_)
          have Nx43 : x43 = nI (k + 1) := g_addN ex43 Ey rfl
          show GW SM E _ 46 [some (.ref (e_ad E 0)), some (.int x), some (.int of), some (.int a), some (.int x43)] [] sl5
          refine G_goto C 5 dX11_wishSet_46 rfl ?_
          exact ih5 (k + 1) a x43 sl5 (g_cn (a := (k + 1)) Nx43 (by first | rfl | omega | (simp only [List.length_cons, List.length_drop]; done) | (simp only [List.length_cons, List.length_drop]; omega))) (by omega) (by rw [x_wset, if_pos (x_bitN1 (by unfold x_bit; rw [← Ey, ← ex15, ← ex17]; exact c19)), ha]) il5 fl5 (by omega)
        ·
          refine G_iload_n (i := 3) C 23 dX11_wishSet_22 rfl rfl rfl ?_
          refine G_aload_n (i := 0) C 24 dX11_wishSet_23 rfl rfl rfl ?_
          refine G_iload_n (i := 1) C 25 dX11_wishSet_24 rfl rfl rfl ?_
          refine G_iload C 27 dX11_wishSet_25 rfl rfl ?_
          refine G_calli 30 (G_runV C Kc_X11_wishes KV_X11_181 (by omega) (by decide) (eM _ _ _) rfl (c_X11_wishes 0 TX nT n l P sl5 il5 x p hx (by omega) y k Ey (by omega)) rfl rfl rfl (Nat.le_of_ble_eq_true rfl) rfl dX11_wishSet_27) rfl (fun x27 s27 h27 => ?_)
          have i_1 : mI TX nT n l P s27 := mI_fr il5 (h27.1)
          have f_1 : Fr mM s s27 := Fr.tr fl5 (h27.1)
          refine G_if_eq C 40 33 dX11_wishSet_30 rfl rfl (fun c30 => ?_) (fun c30 => ?_)
          ·
            refine G_iconst (v := 0) C 41 dX11_wishSet_40 rfl rfl ?_
            refine G_ior C 42 dX11_wishSet_41 rfl (fun x41 ex41 => ?_)
            refine G_istore_n (i := 3) (L' := [some (.ref (e_ad E 0)), some (.int x), some (.int of), some (.int x41), some (.int y)]) C 43 dX11_wishSet_42 rfl rfl (Nat.le_of_ble_eq_true rfl) rfl rfl ?_
            refine G_iinc (w := 1) C 46 dX11_wishSet_43 rfl rfl rfl rfl (fun x43 ex43 => ?_)
            have Nx43 : x43 = nI (k + 1) := g_addN ex43 Ey rfl
            show GW SM E _ 46 [some (.ref (e_ad E 0)), some (.int x), some (.int of), some (.int x41), some (.int x43)] [] s27
            refine G_goto C 5 dX11_wishSet_46 rfl ?_
            exact ih5 (k + 1) x41 x43 s27 (g_cn (a := (k + 1)) Nx43 (by first | rfl | omega | (simp only [List.length_cons, List.length_drop]; done) | (simp only [List.length_cons, List.length_drop]; omega))) (by omega) (by rw [x_wset, if_neg (x_bit1N (by unfold x_bit; rw [← Ey, ← ex15, ← ex17]; exact c19)), if_pos (h27.2.symm.trans c30), ex41, y_or0, ha]) i_1 f_1 (by omega)
          ·
            refine G_iconst (v := 1) C 34 dX11_wishSet_33 rfl rfl ?_
            refine G_iload C 36 dX11_wishSet_34 rfl rfl ?_
            refine G_ishl C 37 dX11_wishSet_36 rfl (fun x36 ex36 => ?_)
            refine G_goto C 41 dX11_wishSet_37 rfl ?_
            refine G_ior C 42 dX11_wishSet_41 rfl (fun x41 ex41 => ?_)
            refine G_istore_n (i := 3) (L' := [some (.ref (e_ad E 0)), some (.int x), some (.int of), some (.int x41), some (.int y)]) C 43 dX11_wishSet_42 rfl rfl (Nat.le_of_ble_eq_true rfl) rfl rfl ?_
            refine G_iinc (w := 1) C 46 dX11_wishSet_43 rfl rfl rfl rfl (fun x43 ex43 => ?_)
            have Nx43 : x43 = nI (k + 1) := g_addN ex43 Ey rfl
            show GW SM E _ 46 [some (.ref (e_ad E 0)), some (.int x), some (.int of), some (.int x41), some (.int x43)] [] s27
            refine G_goto C 5 dX11_wishSet_46 rfl ?_
            exact ih5 (k + 1) x41 x43 s27 (g_cn (a := (k + 1)) Nx43 (by first | rfl | omega | (simp only [List.length_cons, List.length_drop]; done) | (simp only [List.length_cons, List.length_drop]; omega))) (by omega) (by rw [x_wset, if_neg (x_bit1N (by unfold x_bit; rw [← Ey, ← ex15, ← ex17]; exact c19)), if_neg (by rw [← h27.2]; exact c30), ex41, ex36, Ey, ha]) i_1 f_1 (by omega)
  exact L5 (10 + 1) 0 0 0 s (g_cn (a := 0) rfl (by first | rfl | omega)) (by omega) (rfl) i f (by omega)
theorem dX11_listens_0 : decode cX11_listens 0 = .ok (.aload_n 0, 1) := by decide +kernel
theorem dX11_listens_1 : decode cX11_listens 1 = .ok (.getfield 16, 3) := by decide +kernel
theorem dX11_listens_4 : decode cX11_listens 4 = .ok (.iconst 4, 1) := by decide +kernel
theorem dX11_listens_5 : decode cX11_listens 5 = .ok (.iload_n 1, 1) := by decide +kernel
theorem dX11_listens_6 : decode cX11_listens 6 = .ok (.imul, 1) := by decide +kernel
theorem dX11_listens_7 : decode cX11_listens 7 = .ok (.iconst 3, 1) := by decide +kernel
theorem dX11_listens_8 : decode cX11_listens 8 = .ok (.iadd, 1) := by decide +kernel
theorem dX11_listens_9 : decode cX11_listens 9 = .ok (.iaload, 1) := by decide +kernel
theorem dX11_listens_10 : decode cX11_listens 10 = .ok (.iconst 1, 1) := by decide +kernel
theorem dX11_listens_11 : decode cX11_listens 11 = .ok (.if_icmp .ne 7, 3) := by decide +kernel
theorem dX11_listens_14 : decode cX11_listens 14 = .ok (.iconst 1, 1) := by decide +kernel
theorem dX11_listens_15 : decode cX11_listens 15 = .ok (.goto 4, 3) := by decide +kernel
theorem dX11_listens_18 : decode cX11_listens 18 = .ok (.iconst 0, 1) := by decide +kernel
theorem dX11_listens_19 : decode cX11_listens 19 = .ok (.istore_n 2, 1) := by decide +kernel
theorem dX11_listens_20 : decode cX11_listens 20 = .ok (.aload_n 0, 1) := by decide +kernel
theorem dX11_listens_21 : decode cX11_listens 21 = .ok (.getfield 7, 3) := by decide +kernel
theorem dX11_listens_24 : decode cX11_listens 24 = .ok (.iload_n 1, 1) := by decide +kernel
theorem dX11_listens_25 : decode cX11_listens 25 = .ok (.iaload, 1) := by decide +kernel
theorem dX11_listens_26 : decode cX11_listens 26 = .ok (.tableswitch 57 2 4 #[26, 55, 26], 26) := by decide +kernel
theorem dX11_listens_52 : decode cX11_listens 52 = .ok (.iload_n 2, 1) := by decide +kernel
theorem dX11_listens_53 : decode cX11_listens 53 = .ok (.ifCond .eq 26, 3) := by decide +kernel
theorem dX11_listens_56 : decode cX11_listens 56 = .ok (.aload_n 0, 1) := by decide +kernel
theorem dX11_listens_57 : decode cX11_listens 57 = .ok (.getfield 19, 3) := by decide +kernel
theorem dX11_listens_60 : decode cX11_listens 60 = .ok (.iconst 0, 1) := by decide +kernel
theorem dX11_listens_61 : decode cX11_listens 61 = .ok (.iaload, 1) := by decide +kernel
theorem dX11_listens_62 : decode cX11_listens 62 = .ok (.iconst 3, 1) := by decide +kernel
theorem dX11_listens_63 : decode cX11_listens 63 = .ok (.irem, 1) := by decide +kernel
theorem dX11_listens_64 : decode cX11_listens 64 = .ok (.aload_n 0, 1) := by decide +kernel
theorem dX11_listens_65 : decode cX11_listens 65 = .ok (.getfield 13, 3) := by decide +kernel
theorem dX11_listens_68 : decode cX11_listens 68 = .ok (.iload_n 1, 1) := by decide +kernel
theorem dX11_listens_69 : decode cX11_listens 69 = .ok (.iaload, 1) := by decide +kernel
theorem dX11_listens_70 : decode cX11_listens 70 = .ok (.iconst 3, 1) := by decide +kernel
theorem dX11_listens_71 : decode cX11_listens 71 = .ok (.irem, 1) := by decide +kernel
theorem dX11_listens_72 : decode cX11_listens 72 = .ok (.if_icmp .eq 7, 3) := by decide +kernel
theorem dX11_listens_75 : decode cX11_listens 75 = .ok (.iconst 1, 1) := by decide +kernel
theorem dX11_listens_76 : decode cX11_listens 76 = .ok (.goto 4, 3) := by decide +kernel
theorem dX11_listens_79 : decode cX11_listens 79 = .ok (.iconst 0, 1) := by decide +kernel
theorem dX11_listens_80 : decode cX11_listens 80 = .ok (.ireturn, 1) := by decide +kernel
theorem dX11_listens_81 : decode cX11_listens 81 = .ok (.iconst 1, 1) := by decide +kernel
theorem dX11_listens_82 : decode cX11_listens 82 = .ok (.ireturn, 1) := by decide +kernel
theorem dX11_listens_83 : decode cX11_listens 83 = .ok (.iload_n 2, 1) := by decide +kernel
theorem dX11_listens_84 : decode cX11_listens 84 = .ok (.ireturn, 1) := by decide +kernel
set_option maxHeartbeats 4000000 in
set_option maxRecDepth 100000 in
theorem c_X11_listens (d : Nat) (TX : gTX) (nT n l : Nat) (P s : gS) (hI : mI TX nT n l P s) (x : Int32) (p : Nat) (hx : x = nI p) (hp : p < n) : gMt SM yX11_listens cX11_listens 3 (some .boolean) (d + 1) (fun ad => [.ref (ad 0), .int x]) s (gQi SM (fun r s' => s' = s ∧ r = x_lis P p)) := by
  have hn6 : n ≤ 6 := hI.2.1.2.1
  have hl6 : l < 6 := mI_l6 hI
  refine gMt_of SM_ok (by decide +kernel) (fun ad => [some (.ref (ad 0)), some (.int x), none]) (fun _ => rfl) (fun _ => rfl) (fun _ => Nat.le_of_ble_eq_true rfl) (fun E C0 => ?_)
  have C : gCx SM E RX11 cX11_listens 3 (some .boolean) (d + 1) := C0
  have i : mI TX nT n l P s := hI
  have f : Fr mM s s := Fr.rf
  refine G_aload_n (i := 0) C 1 dX11_listens_0 rfl rfl rfl ?_
  refine X11_16g C 4 dX11_listens_1 rfl ?_
  refine G_iconst (v := 4) C 5 dX11_listens_4 rfl rfl ?_
  refine G_iload_n (i := 1) C 6 dX11_listens_5 rfl rfl rfl ?_
  refine G_imul C 7 dX11_listens_6 rfl (fun x6 ex6 => ?_)
  have Nx6 : x6 = nI (4 * p) := g_mulN ex6 rfl hx
  refine G_iconst (v := 3) C 8 dX11_listens_7 rfl rfl ?_
  refine G_iadd C 9 dX11_listens_8 rfl (fun x8 ex8 => ?_)
  have Nx8 : x8 = nI ((4 * p) + 3) := g_addN ex8 Nx6 rfl
  refine G_iald (n := 24) C 10 (by decide) (eMk (by decide) _ _ _) (((4 * p) + 3)) Nx8 (by omega) (by decide) dX11_listens_9 rfl (fun x9 ex9 => ?_)
  have Sx9 : x9 = P 5 p := ex9.trans (congrFun (congrFun i.1 5) p)
  refine G_iconst (v := 1) C 11 dX11_listens_10 rfl rfl ?_
  refine G_icmp_ne C 18 14 dX11_listens_11 rfl rfl (fun c11 => ?_) (fun c11 => ?_)
  ·
    refine G_iconst (v := 0) C 19 dX11_listens_18 rfl rfl ?_
    refine G_istore_n (i := 2) (L' := [some (.ref (e_ad E 0)), some (.int x), some (.int 0)]) C 20 dX11_listens_19 rfl rfl (Nat.le_of_ble_eq_true rfl) rfl rfl ?_
    refine G_aload_n (i := 0) C 21 dX11_listens_20 rfl rfl rfl ?_
    refine X11_7g C 24 dX11_listens_21 rfl ?_
    refine G_iload_n (i := 1) C 25 dX11_listens_24 rfl rfl rfl ?_
    refine G_iald (n := 6) C 26 (by decide) (eMk (by decide) _ _ _) (p) hx (by omega) (by decide) dX11_listens_25 rfl (fun x25 ex25 => ?_)
    have Sx25 : x25 = P 6 p := ex25.trans (mI_6 i (by omega))
    obtain ⟨kdx25, hkdx25, ekdx25⟩ := (mI_p i (p := p) (by omega)).1
    by_cases c26 : x25 = 2
    ·
      refine G_tsIn C 52 (2) c26 dX11_listens_26 (by decide) rfl rfl ?_
      refine G_iload_n (i := 2) C 53 dX11_listens_52 rfl rfl rfl ?_
      refine G_if_eq C 79 56 dX11_listens_53 rfl rfl (fun _ => ?_) (fun c => absurd c (by decide))
      refine G_iconst (v := 0) C 80 dX11_listens_79 rfl rfl ?_
      exact G_zret C rfl dX11_listens_80 (⟨rfl, by
          have hu : ¬ P 5 p = 1 := by rw [← Sx9]; exact c11
          have hk : P 6 p = 2 := Sx25.symm.trans c26
          unfold x_lis x_hears
          rw [hk, if_neg (by decide), if_pos rfl]
          unfold x_hearsD
          rw [if_neg hu]⟩)
    by_cases c26_1 : x25 = 3
    ·
      refine G_tsIn C 81 (3) c26_1 dX11_listens_26 (by decide) rfl rfl ?_
      refine G_iconst (v := 1) C 82 dX11_listens_81 rfl rfl ?_
      exact G_zret C rfl dX11_listens_82 (⟨rfl, by
          have hk : P 6 p = 3 := Sx25.symm.trans c26_1
          unfold x_lis x_hears
          rw [hk, if_pos rfl]⟩)
    by_cases c26_2 : x25 = 4
    ·
      refine G_tsIn C 52 (4) c26_2 dX11_listens_26 (by decide) rfl rfl ?_
      refine G_iload_n (i := 2) C 53 dX11_listens_52 rfl rfl rfl ?_
      refine G_if_eq C 79 56 dX11_listens_53 rfl rfl (fun _ => ?_) (fun c => absurd c (by decide))
      refine G_iconst (v := 0) C 80 dX11_listens_79 rfl rfl ?_
      exact G_zret C rfl dX11_listens_80 (⟨rfl, by
          have hu : ¬ P 5 p = 1 := by rw [← Sx9]; exact c11
          have hk : P 6 p = 4 := Sx25.symm.trans c26_2
          unfold x_lis x_hears
          rw [hk, if_neg (by decide), if_neg (by decide), if_pos rfl]
          unfold x_hearsD
          rw [if_neg hu]⟩)
    refine G_tsOut C 83 dX11_listens_26 (by
      have e2 := g_ti (k := 2) 2 rfl c26
      have e3 := g_ti (k := 3) 3 rfl c26_1
      have e4 := g_ti (k := 4) 4 rfl c26_2
      omega) rfl ?_
    refine G_iload_n (i := 2) C 84 dX11_listens_83 rfl rfl rfl ?_
    exact G_zret C rfl dX11_listens_84 (⟨rfl, by
        have hu : ¬ P 5 p = 1 := by rw [← Sx9]; exact c11
        unfold x_lis x_hears
        rw [← Sx25, if_neg c26_1, if_neg c26, if_neg c26_2, if_neg hu]⟩)
  ·
    refine G_iconst (v := 1) C 15 dX11_listens_14 rfl rfl ?_
    refine G_goto C 19 dX11_listens_15 rfl ?_
    refine G_istore_n (i := 2) (L' := [some (.ref (e_ad E 0)), some (.int x), some (.int 1)]) C 20 dX11_listens_19 rfl rfl (Nat.le_of_ble_eq_true rfl) rfl rfl ?_
    refine G_aload_n (i := 0) C 21 dX11_listens_20 rfl rfl rfl ?_
    refine X11_7g C 24 dX11_listens_21 rfl ?_
    refine G_iload_n (i := 1) C 25 dX11_listens_24 rfl rfl rfl ?_
    refine G_iald (n := 6) C 26 (by decide) (eMk (by decide) _ _ _) (p) hx (by omega) (by decide) dX11_listens_25 rfl (fun x25 ex25 => ?_)
    have Sx25 : x25 = P 6 p := ex25.trans (mI_6 i (by omega))
    obtain ⟨kdx25, hkdx25, ekdx25⟩ := (mI_p i (p := p) (by omega)).1
    by_cases c26 : x25 = 2
    ·
      refine G_tsIn C 52 (2) c26 dX11_listens_26 (by decide) rfl rfl ?_
      refine G_iload_n (i := 2) C 53 dX11_listens_52 rfl rfl rfl ?_
      refine G_if_eq C 79 56 dX11_listens_53 rfl rfl (fun c => absurd c (by decide)) (fun _ => ?_)
      refine G_aload_n (i := 0) C 57 dX11_listens_56 rfl rfl rfl ?_
      refine X11_19g C 60 dX11_listens_57 rfl ?_
      refine G_iconst (v := 0) C 61 dX11_listens_60 rfl rfl ?_
      refine G_iald (n := 13) C 62 (by decide) (eMk (by decide) _ _ _) (0) rfl (by omega) (by decide) dX11_listens_61 rfl (fun x61 ex61 => ?_)
      have Sx61 : x61 = P 0 0 := ex61.trans (mI_v i 0 0)
      refine G_iconst (v := 3) C 63 dX11_listens_62 rfl rfl ?_
      refine G_irem C 64 dX11_listens_63 rfl (by decide) (fun x63 ex63 => ?_)
      refine G_aload_n (i := 0) C 65 dX11_listens_64 rfl rfl rfl ?_
      refine X11_13g C 68 dX11_listens_65 rfl ?_
      refine G_iload_n (i := 1) C 69 dX11_listens_68 rfl rfl rfl ?_
      refine G_iald (n := 6) C 70 (by decide) (eMk (by decide) _ _ _) (p) hx (by omega) (by decide) dX11_listens_69 rfl (fun x69 ex69 => ?_)
      have Sx69 : x69 = P 7 p := ex69.trans (mI_7 i (by omega))
      refine G_iconst (v := 3) C 71 dX11_listens_70 rfl rfl ?_
      refine G_irem C 72 dX11_listens_71 rfl (by decide) (fun x71 ex71 => ?_)
      refine G_icmp_eq C 79 75 dX11_listens_72 rfl rfl (fun c72 => ?_) (fun c72 => ?_)
      ·
        refine G_iconst (v := 0) C 80 dX11_listens_79 rfl rfl ?_
        exact G_zret C rfl dX11_listens_80 (⟨rfl, by
            have hu : P 5 p = 1 := by rw [← Sx9]; exact c11
            have hk : P 6 p = 2 := Sx25.symm.trans c26
            unfold x_lis x_hears
            rw [hk, if_neg (by decide), if_pos rfl]
            unfold x_hearsD
            rw [if_pos hu, ← Sx61, ← Sx69, ← ex63, ← ex71, if_pos c72]⟩)
      ·
        refine G_iconst (v := 1) C 76 dX11_listens_75 rfl rfl ?_
        refine G_goto C 80 dX11_listens_76 rfl ?_
        exact G_zret C rfl dX11_listens_80 (⟨rfl, by
            have hu : P 5 p = 1 := by rw [← Sx9]; exact c11
            have hk : P 6 p = 2 := Sx25.symm.trans c26
            unfold x_lis x_hears
            rw [hk, if_neg (by decide), if_pos rfl]
            unfold x_hearsD
            rw [if_pos hu, ← Sx61, ← Sx69, ← ex63, ← ex71, if_neg c72]⟩)
    by_cases c26_1 : x25 = 3
    ·
      refine G_tsIn C 81 (3) c26_1 dX11_listens_26 (by decide) rfl rfl ?_
      refine G_iconst (v := 1) C 82 dX11_listens_81 rfl rfl ?_
      exact G_zret C rfl dX11_listens_82 (⟨rfl, by
          have hk : P 6 p = 3 := Sx25.symm.trans c26_1
          unfold x_lis x_hears
          rw [hk, if_pos rfl]⟩)
    by_cases c26_2 : x25 = 4
    ·
      refine G_tsIn C 52 (4) c26_2 dX11_listens_26 (by decide) rfl rfl ?_
      refine G_iload_n (i := 2) C 53 dX11_listens_52 rfl rfl rfl ?_
      refine G_if_eq C 79 56 dX11_listens_53 rfl rfl (fun c => absurd c (by decide)) (fun _ => ?_)
      refine G_aload_n (i := 0) C 57 dX11_listens_56 rfl rfl rfl ?_
      refine X11_19g C 60 dX11_listens_57 rfl ?_
      refine G_iconst (v := 0) C 61 dX11_listens_60 rfl rfl ?_
      refine G_iald (n := 13) C 62 (by decide) (eMk (by decide) _ _ _) (0) rfl (by omega) (by decide) dX11_listens_61 rfl (fun x61 ex61 => ?_)
      have Sx61 : x61 = P 0 0 := ex61.trans (mI_v i 0 0)
      refine G_iconst (v := 3) C 63 dX11_listens_62 rfl rfl ?_
      refine G_irem C 64 dX11_listens_63 rfl (by decide) (fun x63 ex63 => ?_)
      refine G_aload_n (i := 0) C 65 dX11_listens_64 rfl rfl rfl ?_
      refine X11_13g C 68 dX11_listens_65 rfl ?_
      refine G_iload_n (i := 1) C 69 dX11_listens_68 rfl rfl rfl ?_
      refine G_iald (n := 6) C 70 (by decide) (eMk (by decide) _ _ _) (p) hx (by omega) (by decide) dX11_listens_69 rfl (fun x69 ex69 => ?_)
      have Sx69 : x69 = P 7 p := ex69.trans (mI_7 i (by omega))
      refine G_iconst (v := 3) C 71 dX11_listens_70 rfl rfl ?_
      refine G_irem C 72 dX11_listens_71 rfl (by decide) (fun x71 ex71 => ?_)
      refine G_icmp_eq C 79 75 dX11_listens_72 rfl rfl (fun c72 => ?_) (fun c72 => ?_)
      ·
        refine G_iconst (v := 0) C 80 dX11_listens_79 rfl rfl ?_
        exact G_zret C rfl dX11_listens_80 (⟨rfl, by
            have hu : P 5 p = 1 := by rw [← Sx9]; exact c11
            have hk : P 6 p = 4 := Sx25.symm.trans c26_2
            unfold x_lis x_hears
            rw [hk, if_neg (by decide), if_neg (by decide), if_pos rfl]
            unfold x_hearsD
            rw [if_pos hu, ← Sx61, ← Sx69, ← ex63, ← ex71, if_pos c72]⟩)
      ·
        refine G_iconst (v := 1) C 76 dX11_listens_75 rfl rfl ?_
        refine G_goto C 80 dX11_listens_76 rfl ?_
        exact G_zret C rfl dX11_listens_80 (⟨rfl, by
            have hu : P 5 p = 1 := by rw [← Sx9]; exact c11
            have hk : P 6 p = 4 := Sx25.symm.trans c26_2
            unfold x_lis x_hears
            rw [hk, if_neg (by decide), if_neg (by decide), if_pos rfl]
            unfold x_hearsD
            rw [if_pos hu, ← Sx61, ← Sx69, ← ex63, ← ex71, if_neg c72]⟩)
    refine G_tsOut C 83 dX11_listens_26 (by
      have e2 := g_ti (k := 2) 2 rfl c26
      have e3 := g_ti (k := 3) 3 rfl c26_1
      have e4 := g_ti (k := 4) 4 rfl c26_2
      omega) rfl ?_
    refine G_iload_n (i := 2) C 84 dX11_listens_83 rfl rfl rfl ?_
    exact G_zret C rfl dX11_listens_84 (⟨rfl, by
        have hu : P 5 p = 1 := by rw [← Sx9]; exact c11
        unfold x_lis x_hears
        rw [← Sx25, if_neg c26_1, if_neg c26, if_neg c26_2, if_pos hu]⟩)
theorem dX11_goesOf_0 : decode cX11_goesOf 0 = .ok (.aload_n 0, 1) := by decide +kernel
theorem dX11_goesOf_1 : decode cX11_goesOf 1 = .ok (.getfield 7, 3) := by decide +kernel
theorem dX11_goesOf_4 : decode cX11_goesOf 4 = .ok (.iload_n 1, 1) := by decide +kernel
theorem dX11_goesOf_5 : decode cX11_goesOf 5 = .ok (.iaload, 1) := by decide +kernel
theorem dX11_goesOf_6 : decode cX11_goesOf 6 = .ok (.iconst 1, 1) := by decide +kernel
theorem dX11_goesOf_7 : decode cX11_goesOf 7 = .ok (.if_icmp .eq 13, 3) := by decide +kernel
theorem dX11_goesOf_10 : decode cX11_goesOf 10 = .ok (.aload_n 0, 1) := by decide +kernel
theorem dX11_goesOf_11 : decode cX11_goesOf 11 = .ok (.getfield 7, 3) := by decide +kernel
theorem dX11_goesOf_14 : decode cX11_goesOf 14 = .ok (.iload_n 1, 1) := by decide +kernel
theorem dX11_goesOf_15 : decode cX11_goesOf 15 = .ok (.iaload, 1) := by decide +kernel
theorem dX11_goesOf_16 : decode cX11_goesOf 16 = .ok (.iconst 3, 1) := by decide +kernel
theorem dX11_goesOf_17 : decode cX11_goesOf 17 = .ok (.if_icmp .ne 5, 3) := by decide +kernel
theorem dX11_goesOf_20 : decode cX11_goesOf 20 = .ok (.iconst 0, 1) := by decide +kernel
theorem dX11_goesOf_21 : decode cX11_goesOf 21 = .ok (.ireturn, 1) := by decide +kernel
theorem dX11_goesOf_22 : decode cX11_goesOf 22 = .ok (.aload_n 0, 1) := by decide +kernel
theorem dX11_goesOf_23 : decode cX11_goesOf 23 = .ok (.getfield 7, 3) := by decide +kernel
theorem dX11_goesOf_26 : decode cX11_goesOf 26 = .ok (.iload_n 1, 1) := by decide +kernel
theorem dX11_goesOf_27 : decode cX11_goesOf 27 = .ok (.iaload, 1) := by decide +kernel
theorem dX11_goesOf_28 : decode cX11_goesOf 28 = .ok (.iconst 5, 1) := by decide +kernel
theorem dX11_goesOf_29 : decode cX11_goesOf 29 = .ok (.if_icmp .ne 10, 3) := by decide +kernel
theorem dX11_goesOf_32 : decode cX11_goesOf 32 = .ok (.aload_n 0, 1) := by decide +kernel
theorem dX11_goesOf_33 : decode cX11_goesOf 33 = .ok (.getfield 13, 3) := by decide +kernel
theorem dX11_goesOf_36 : decode cX11_goesOf 36 = .ok (.iload_n 1, 1) := by decide +kernel
theorem dX11_goesOf_37 : decode cX11_goesOf 37 = .ok (.iaload, 1) := by decide +kernel
theorem dX11_goesOf_38 : decode cX11_goesOf 38 = .ok (.ireturn, 1) := by decide +kernel
theorem dX11_goesOf_39 : decode cX11_goesOf 39 = .ok (.aload_n 0, 1) := by decide +kernel
theorem dX11_goesOf_40 : decode cX11_goesOf 40 = .ok (.iconst 2, 1) := by decide +kernel
theorem dX11_goesOf_41 : decode cX11_goesOf 41 = .ok (.iload_n 1, 1) := by decide +kernel
theorem dX11_goesOf_42 : decode cX11_goesOf 42 = .ok (.iconst (-1), 1) := by decide +kernel
theorem dX11_goesOf_43 : decode cX11_goesOf 43 = .ok (.invokevirtual 167, 3) := by decide +kernel
theorem dX11_goesOf_46 : decode cX11_goesOf 46 = .ok (.istore_n 2, 1) := by decide +kernel
theorem dX11_goesOf_47 : decode cX11_goesOf 47 = .ok (.aload_n 0, 1) := by decide +kernel
theorem dX11_goesOf_48 : decode cX11_goesOf 48 = .ok (.getfield 7, 3) := by decide +kernel
theorem dX11_goesOf_51 : decode cX11_goesOf 51 = .ok (.iload_n 1, 1) := by decide +kernel
theorem dX11_goesOf_52 : decode cX11_goesOf 52 = .ok (.iaload, 1) := by decide +kernel
theorem dX11_goesOf_53 : decode cX11_goesOf 53 = .ok (.iconst 2, 1) := by decide +kernel
theorem dX11_goesOf_54 : decode cX11_goesOf 54 = .ok (.if_icmp .ne 8, 3) := by decide +kernel
theorem dX11_goesOf_57 : decode cX11_goesOf 57 = .ok (.iload_n 2, 1) := by decide +kernel
theorem dX11_goesOf_58 : decode cX11_goesOf 58 = .ok (.ineg, 1) := by decide +kernel
theorem dX11_goesOf_59 : decode cX11_goesOf 59 = .ok (.goto 25, 3) := by decide +kernel
theorem dX11_goesOf_62 : decode cX11_goesOf 62 = .ok (.aload_n 0, 1) := by decide +kernel
theorem dX11_goesOf_63 : decode cX11_goesOf 63 = .ok (.getfield 7, 3) := by decide +kernel
theorem dX11_goesOf_66 : decode cX11_goesOf 66 = .ok (.iload_n 1, 1) := by decide +kernel
theorem dX11_goesOf_67 : decode cX11_goesOf 67 = .ok (.iaload, 1) := by decide +kernel
theorem dX11_goesOf_68 : decode cX11_goesOf 68 = .ok (.iconst 4, 1) := by decide +kernel
theorem dX11_goesOf_69 : decode cX11_goesOf 69 = .ok (.if_icmp .ne 14, 3) := by decide +kernel
theorem dX11_goesOf_72 : decode cX11_goesOf 72 = .ok (.aload_n 0, 1) := by decide +kernel
theorem dX11_goesOf_73 : decode cX11_goesOf 73 = .ok (.getfield 13, 3) := by decide +kernel
theorem dX11_goesOf_76 : decode cX11_goesOf 76 = .ok (.iload_n 1, 1) := by decide +kernel
theorem dX11_goesOf_77 : decode cX11_goesOf 77 = .ok (.iaload, 1) := by decide +kernel
theorem dX11_goesOf_78 : decode cX11_goesOf 78 = .ok (.iload_n 2, 1) := by decide +kernel
theorem dX11_goesOf_79 : decode cX11_goesOf 79 = .ok (.isub, 1) := by decide +kernel
theorem dX11_goesOf_80 : decode cX11_goesOf 80 = .ok (.goto 4, 3) := by decide +kernel
theorem dX11_goesOf_83 : decode cX11_goesOf 83 = .ok (.iload_n 2, 1) := by decide +kernel
theorem dX11_goesOf_84 : decode cX11_goesOf 84 = .ok (.ireturn, 1) := by decide +kernel
set_option maxHeartbeats 4000000 in
set_option maxRecDepth 100000 in
theorem c_X11_goesOf (d : Nat) (TX : gTX) (nT n l : Nat) (P s : gS) (hI : mI TX nT n l P s) (x : Int32) (p : Nat) (hx : x = nI p) (hp : p < n) : gMt SM yX11_goesOf cX11_goesOf 3 (some .int) (d + 5) (fun ad => [.ref (ad 0), .int x]) s (gQi SM (fun r s' => Fr mM s s' ∧ r = x_goes TX P p)) := by
  have hn6 : n ≤ 6 := hI.2.1.2.1
  have hl6 : l < 6 := mI_l6 hI
  refine gMt_of SM_ok (by decide +kernel) (fun ad => [some (.ref (ad 0)), some (.int x), none]) (fun _ => rfl) (fun _ => rfl) (fun _ => Nat.le_of_ble_eq_true rfl) (fun E C0 => ?_)
  have C : gCx SM E RX11 cX11_goesOf 3 (some .int) (d + 5) := C0
  have i : mI TX nT n l P s := hI
  have f : Fr mM s s := Fr.rf
  refine G_aload_n (i := 0) C 1 dX11_goesOf_0 rfl rfl rfl ?_
  refine X11_7g C 4 dX11_goesOf_1 rfl ?_
  refine G_iload_n (i := 1) C 5 dX11_goesOf_4 rfl rfl rfl ?_
  refine G_iald (n := 6) C 6 (by decide) (eMk (by decide) _ _ _) (p) hx (by omega) (by decide) dX11_goesOf_5 rfl (fun x5 ex5 => ?_)
  have Sx5 : x5 = P 6 p := ex5.trans (mI_6 i (by omega))
  obtain ⟨kdx5, hkdx5, ekdx5⟩ := (mI_p i (p := p) (by omega)).1
  refine G_iconst (v := 1) C 7 dX11_goesOf_6 rfl rfl ?_
  refine G_icmp_eq C 20 10 dX11_goesOf_7 rfl rfl (fun c7 => ?_) (fun c7 => ?_)
  ·
    have n7 : kdx5 = 1 := (g_eqN (a := kdx5) (b := 1) (hx := (Sx5.trans ekdx5)) (hy := rfl) (by omega) (by omega)).mp c7
    refine G_iconst (v := 0) C 21 dX11_goesOf_20 rfl rfl ?_
    exact G_iret C dX11_goesOf_21 (⟨f, by unfold x_goes x_kg; rw [← Sx5, if_pos c7]⟩)
  ·
    have n7 : ¬ kdx5 = 1 := fun h => c7 ((g_eqN (a := kdx5) (b := 1) (hx := (Sx5.trans ekdx5)) (hy := rfl) (by omega) (by omega)).mpr h)
    refine G_aload_n (i := 0) C 11 dX11_goesOf_10 rfl rfl rfl ?_
    refine X11_7g C 14 dX11_goesOf_11 rfl ?_
    refine G_iload_n (i := 1) C 15 dX11_goesOf_14 rfl rfl rfl ?_
    refine G_iald (n := 6) C 16 (by decide) (eMk (by decide) _ _ _) (p) hx (by omega) (by decide) dX11_goesOf_15 rfl (fun x15 ex15 => ?_)
    have Sx15 : x15 = P 6 p := ex15.trans (mI_6 i (by omega))
    obtain ⟨kdx15, hkdx15, ekdx15⟩ := (mI_p i (p := p) (by omega)).1
    refine G_iconst (v := 3) C 17 dX11_goesOf_16 rfl rfl ?_
    refine G_icmp_ne C 22 20 dX11_goesOf_17 rfl rfl (fun c17 => ?_) (fun c17 => ?_)
    ·
      have n17 : ¬ kdx15 = 3 := fun h => c17 ((g_eqN (a := kdx15) (b := 3) (hx := (Sx15.trans ekdx15)) (hy := rfl) (by omega) (by omega)).mpr h)
      refine G_aload_n (i := 0) C 23 dX11_goesOf_22 rfl rfl rfl ?_
      refine X11_7g C 26 dX11_goesOf_23 rfl ?_
      refine G_iload_n (i := 1) C 27 dX11_goesOf_26 rfl rfl rfl ?_
      refine G_iald (n := 6) C 28 (by decide) (eMk (by decide) _ _ _) (p) hx (by omega) (by decide) dX11_goesOf_27 rfl (fun x27 ex27 => ?_)
      have Sx27 : x27 = P 6 p := ex27.trans (mI_6 i (by omega))
      obtain ⟨kdx27, hkdx27, ekdx27⟩ := (mI_p i (p := p) (by omega)).1
      refine G_iconst (v := 5) C 29 dX11_goesOf_28 rfl rfl ?_
      refine G_icmp_ne C 39 32 dX11_goesOf_29 rfl rfl (fun c29 => ?_) (fun c29 => ?_)
      ·
        have n29 : ¬ kdx27 = 5 := fun h => c29 ((g_eqN (a := kdx27) (b := 5) (hx := (Sx27.trans ekdx27)) (hy := rfl) (by omega) (by omega)).mpr h)
        refine G_aload_n (i := 0) C 40 dX11_goesOf_39 rfl rfl rfl ?_
        refine G_iconst (v := 2) C 41 dX11_goesOf_40 rfl rfl ?_
        refine G_iload_n (i := 1) C 42 dX11_goesOf_41 rfl rfl rfl ?_
        refine G_iconst (v := (-1)) C 43 dX11_goesOf_42 rfl rfl ?_
        refine G_calli 46 (G_runV C Kc_X11_asksOf KV_X11_167 (by omega) (by decide) (eM _ _ _) rfl (c_X11_asksOf 0 TX nT n l P s i 2 2 rfl (by omega) x p hx (by omega) (-1) 0 (Or.inl ⟨rfl, rfl⟩)) rfl rfl rfl (Nat.le_of_ble_eq_true rfl) rfl dX11_goesOf_43) rfl (fun x43 s43 h43 => ?_)
        have i_1 : mI TX nT n l P s43 := mI_fr i (h43.1)
        have f_1 : Fr mM s s43 := Fr.tr f (h43.1)
        refine G_istore_n (i := 2) (L' := [some (.ref (e_ad E 0)), some (.int x), some (.int x43)]) C 47 dX11_goesOf_46 rfl rfl (Nat.le_of_ble_eq_true rfl) rfl rfl ?_
        refine G_aload_n (i := 0) C 48 dX11_goesOf_47 rfl rfl rfl ?_
        refine X11_7g C 51 dX11_goesOf_48 rfl ?_
        refine G_iload_n (i := 1) C 52 dX11_goesOf_51 rfl rfl rfl ?_
        refine G_iald (n := 6) C 53 (by decide) (eMk (by decide) _ _ _) (p) hx (by omega) (by decide) dX11_goesOf_52 rfl (fun x52 ex52 => ?_)
        have Sx52 : x52 = P 6 p := ex52.trans (mI_6 i_1 (by omega))
        obtain ⟨kdx52, hkdx52, ekdx52⟩ := (mI_p i_1 (p := p) (by omega)).1
        refine G_iconst (v := 2) C 54 dX11_goesOf_53 rfl rfl ?_
        refine G_icmp_ne C 62 57 dX11_goesOf_54 rfl rfl (fun c54 => ?_) (fun c54 => ?_)
        ·
          have n54 : ¬ kdx52 = 2 := fun h => c54 ((g_eqN (a := kdx52) (b := 2) (hx := (Sx52.trans ekdx52)) (hy := rfl) (by omega) (by omega)).mpr h)
          refine G_aload_n (i := 0) C 63 dX11_goesOf_62 rfl rfl rfl ?_
          refine X11_7g C 66 dX11_goesOf_63 rfl ?_
          refine G_iload_n (i := 1) C 67 dX11_goesOf_66 rfl rfl rfl ?_
          refine G_iald (n := 6) C 68 (by decide) (eMk (by decide) _ _ _) (p) hx (by omega) (by decide) dX11_goesOf_67 rfl (fun x67 ex67 => ?_)
          have Sx67 : x67 = P 6 p := ex67.trans (mI_6 i_1 (by omega))
          obtain ⟨kdx67, hkdx67, ekdx67⟩ := (mI_p i_1 (p := p) (by omega)).1
          refine G_iconst (v := 4) C 69 dX11_goesOf_68 rfl rfl ?_
          refine G_icmp_ne C 83 72 dX11_goesOf_69 rfl rfl (fun c69 => ?_) (fun c69 => ?_)
          ·
            have n69 : ¬ kdx67 = 4 := fun h => c69 ((g_eqN (a := kdx67) (b := 4) (hx := (Sx67.trans ekdx67)) (hy := rfl) (by omega) (by omega)).mpr h)
            refine G_iload_n (i := 2) C 84 dX11_goesOf_83 rfl rfl rfl ?_
            exact G_iret C dX11_goesOf_84 (⟨f_1, by unfold x_goes x_kg; rw [if_neg (by rw [← Sx5]; exact c7), if_neg (by rw [← Sx15]; exact c17), if_neg (by rw [← Sx27]; exact c29), if_neg (by rw [← Sx52]; exact c54), if_neg (by rw [← Sx67]; exact c69), ← h43.2]⟩)
          ·
            have n69 : kdx67 = 4 := (g_eqN (a := kdx67) (b := 4) (hx := (Sx67.trans ekdx67)) (hy := rfl) (by omega) (by omega)).mp c69
            refine G_aload_n (i := 0) C 73 dX11_goesOf_72 rfl rfl rfl ?_
            refine X11_13g C 76 dX11_goesOf_73 rfl ?_
            refine G_iload_n (i := 1) C 77 dX11_goesOf_76 rfl rfl rfl ?_
            refine G_iald (n := 6) C 78 (by decide) (eMk (by decide) _ _ _) (p) hx (by omega) (by decide) dX11_goesOf_77 rfl (fun x77 ex77 => ?_)
            have Sx77 : x77 = P 7 p := ex77.trans (mI_7 i_1 (by omega))
            refine G_iload_n (i := 2) C 79 dX11_goesOf_78 rfl rfl rfl ?_
            refine G_isub C 80 dX11_goesOf_79 rfl (fun x79 ex79 => ?_)
            refine G_goto C 84 dX11_goesOf_80 rfl ?_
            exact G_iret C dX11_goesOf_84 (⟨f_1, by unfold x_goes x_kg; rw [if_neg (by rw [← Sx5]; exact c7), if_neg (by rw [← Sx15]; exact c17), if_neg (by rw [← Sx27]; exact c29), if_neg (by rw [← Sx52]; exact c54), if_pos (by rw [← Sx67]; exact c69), ← h43.2, ← Sx77, ex79, y_hum]⟩)
        ·
          have n54 : kdx52 = 2 := (g_eqN (a := kdx52) (b := 2) (hx := (Sx52.trans ekdx52)) (hy := rfl) (by omega) (by omega)).mp c54
          refine G_iload_n (i := 2) C 58 dX11_goesOf_57 rfl rfl rfl ?_
          refine G_ineg C 59 dX11_goesOf_58 rfl (fun x58 ex58 => ?_)
          refine G_goto C 84 dX11_goesOf_59 rfl ?_
          exact G_iret C dX11_goesOf_84 (⟨f_1, by unfold x_goes x_kg; rw [if_neg (by rw [← Sx5]; exact c7), if_neg (by rw [← Sx15]; exact c17), if_neg (by rw [← Sx27]; exact c29), if_pos (by rw [← Sx52]; exact c54), ← h43.2, ← ex58]⟩)
      ·
        have n29 : kdx27 = 5 := (g_eqN (a := kdx27) (b := 5) (hx := (Sx27.trans ekdx27)) (hy := rfl) (by omega) (by omega)).mp c29
        refine G_aload_n (i := 0) C 33 dX11_goesOf_32 rfl rfl rfl ?_
        refine X11_13g C 36 dX11_goesOf_33 rfl ?_
        refine G_iload_n (i := 1) C 37 dX11_goesOf_36 rfl rfl rfl ?_
        refine G_iald (n := 6) C 38 (by decide) (eMk (by decide) _ _ _) (p) hx (by omega) (by decide) dX11_goesOf_37 rfl (fun x37 ex37 => ?_)
        have Sx37 : x37 = P 7 p := ex37.trans (mI_7 i (by omega))
        exact G_iret C dX11_goesOf_38 (⟨f, by unfold x_goes x_kg; rw [if_neg (by rw [← Sx5]; exact c7), if_neg (by rw [← Sx15]; exact c17), if_pos (by rw [← Sx27]; exact c29), ← Sx37]⟩)
    ·
      have n17 : kdx15 = 3 := (g_eqN (a := kdx15) (b := 3) (hx := (Sx15.trans ekdx15)) (hy := rfl) (by omega) (by omega)).mp c17
      refine G_iconst (v := 0) C 21 dX11_goesOf_20 rfl rfl ?_
      exact G_iret C dX11_goesOf_21 (⟨f, by unfold x_goes x_kg; rw [← Sx5, if_neg c7, if_pos (by rw [Sx5, ← Sx15]; exact c17)]⟩)
