theorem dX10_corners_0 : decode cX10_corners 0 = .ok (.aload_n 0, 1) := by decide +kernel
theorem dX10_corners_1 : decode cX10_corners 1 = .ok (.iload_n 1, 1) := by decide +kernel
theorem dX10_corners_2 : decode cX10_corners 2 = .ok (.invokevirtual 212, 3) := by decide +kernel
theorem dX10_corners_5 : decode cX10_corners 5 = .ok (.istore_n 3, 1) := by decide +kernel
theorem dX10_corners_6 : decode cX10_corners 6 = .ok (.iload_n 3, 1) := by decide +kernel
theorem dX10_corners_7 : decode cX10_corners 7 = .ok (.ifCond .eq 5, 3) := by decide +kernel
theorem dX10_corners_10 : decode cX10_corners 10 = .ok (.iload_n 3, 1) := by decide +kernel
theorem dX10_corners_11 : decode cX10_corners 11 = .ok (.ireturn, 1) := by decide +kernel
theorem dX10_corners_12 : decode cX10_corners 12 = .ok (.iload_n 2, 1) := by decide +kernel
theorem dX10_corners_13 : decode cX10_corners 13 = .ok (.iconst (-1), 1) := by decide +kernel
theorem dX10_corners_14 : decode cX10_corners 14 = .ok (.if_icmp .eq 17, 3) := by decide +kernel
theorem dX10_corners_17 : decode cX10_corners 17 = .ok (.aload_n 0, 1) := by decide +kernel
theorem dX10_corners_18 : decode cX10_corners 18 = .ok (.getfield 57, 3) := by decide +kernel
theorem dX10_corners_21 : decode cX10_corners 21 = .ok (.iload_n 2, 1) := by decide +kernel
theorem dX10_corners_22 : decode cX10_corners 22 = .ok (.invokevirtual 139, 3) := by decide +kernel
theorem dX10_corners_25 : decode cX10_corners 25 = .ok (.ifCond .ne 6, 3) := by decide +kernel
theorem dX10_corners_28 : decode cX10_corners 28 = .ok (.bipush (-5), 2) := by decide +kernel
theorem dX10_corners_30 : decode cX10_corners 30 = .ok (.ireturn, 1) := by decide +kernel
theorem dX10_corners_31 : decode cX10_corners 31 = .ok (.iconst 0, 1) := by decide +kernel
theorem dX10_corners_32 : decode cX10_corners 32 = .ok (.istore 4, 2) := by decide +kernel
theorem dX10_corners_34 : decode cX10_corners 34 = .ok (.iconst 0, 1) := by decide +kernel
theorem dX10_corners_35 : decode cX10_corners 35 = .ok (.istore 5, 2) := by decide +kernel
theorem dX10_corners_37 : decode cX10_corners 37 = .ok (.iload 5, 2) := by decide +kernel
theorem dX10_corners_39 : decode cX10_corners 39 = .ok (.bipush 9, 2) := by decide +kernel
theorem dX10_corners_41 : decode cX10_corners 41 = .ok (.if_icmp .ge 75, 3) := by decide +kernel
theorem dX10_corners_44 : decode cX10_corners 44 = .ok (.aload_n 0, 1) := by decide +kernel
theorem dX10_corners_45 : decode cX10_corners 45 = .ok (.getfield 61, 3) := by decide +kernel
theorem dX10_corners_48 : decode cX10_corners 48 = .ok (.aload_n 0, 1) := by decide +kernel
theorem dX10_corners_49 : decode cX10_corners 49 = .ok (.getfield 57, 3) := by decide +kernel
theorem dX10_corners_52 : decode cX10_corners 52 = .ok (.invokevirtual 174, 3) := by decide +kernel
theorem dX10_corners_55 : decode cX10_corners 55 = .ok (.iload_n 2, 1) := by decide +kernel
theorem dX10_corners_56 : decode cX10_corners 56 = .ok (.iconst (-1), 1) := by decide +kernel
theorem dX10_corners_57 : decode cX10_corners 57 = .ok (.if_icmp .ne 15, 3) := by decide +kernel
theorem dX10_corners_60 : decode cX10_corners 60 = .ok (.aload_n 0, 1) := by decide +kernel
theorem dX10_corners_61 : decode cX10_corners 61 = .ok (.getfield 61, 3) := by decide +kernel
theorem dX10_corners_64 : decode cX10_corners 64 = .ok (.iload 5, 2) := by decide +kernel
theorem dX10_corners_66 : decode cX10_corners 66 = .ok (.putfield 122, 3) := by decide +kernel
theorem dX10_corners_69 : decode cX10_corners 69 = .ok (.goto 14, 3) := by decide +kernel
theorem dX10_corners_72 : decode cX10_corners 72 = .ok (.aload_n 0, 1) := by decide +kernel
theorem dX10_corners_73 : decode cX10_corners 73 = .ok (.getfield 61, 3) := by decide +kernel
theorem dX10_corners_76 : decode cX10_corners 76 = .ok (.getfield 184, 3) := by decide +kernel
theorem dX10_corners_79 : decode cX10_corners 79 = .ok (.iload_n 2, 1) := by decide +kernel
theorem dX10_corners_80 : decode cX10_corners 80 = .ok (.iload 5, 2) := by decide +kernel
theorem dX10_corners_82 : decode cX10_corners 82 = .ok (.iastore, 1) := by decide +kernel
theorem dX10_corners_83 : decode cX10_corners 83 = .ok (.iload 4, 2) := by decide +kernel
theorem dX10_corners_85 : decode cX10_corners 85 = .ok (.aload_n 0, 1) := by decide +kernel
theorem dX10_corners_86 : decode cX10_corners 86 = .ok (.aload_n 0, 1) := by decide +kernel
theorem dX10_corners_87 : decode cX10_corners 87 = .ok (.getfield 17, 3) := by decide +kernel
theorem dX10_corners_90 : decode cX10_corners 90 = .ok (.iload_n 1, 1) := by decide +kernel
theorem dX10_corners_91 : decode cX10_corners 91 = .ok (.aaload, 1) := by decide +kernel
theorem dX10_corners_92 : decode cX10_corners 92 = .ok (.invokevirtual 215, 3) := by decide +kernel
theorem dX10_corners_95 : decode cX10_corners 95 = .ok (.iconst (-1), 1) := by decide +kernel
theorem dX10_corners_96 : decode cX10_corners 96 = .ok (.if_icmp .ne 10, 3) := by decide +kernel
theorem dX10_corners_99 : decode cX10_corners 99 = .ok (.iconst 1, 1) := by decide +kernel
theorem dX10_corners_100 : decode cX10_corners 100 = .ok (.iload 5, 2) := by decide +kernel
theorem dX10_corners_102 : decode cX10_corners 102 = .ok (.ishl, 1) := by decide +kernel
theorem dX10_corners_103 : decode cX10_corners 103 = .ok (.goto 4, 3) := by decide +kernel
theorem dX10_corners_106 : decode cX10_corners 106 = .ok (.iconst 0, 1) := by decide +kernel
theorem dX10_corners_107 : decode cX10_corners 107 = .ok (.ior, 1) := by decide +kernel
theorem dX10_corners_108 : decode cX10_corners 108 = .ok (.istore 4, 2) := by decide +kernel
theorem dX10_corners_110 : decode cX10_corners 110 = .ok (.iinc 5 1, 3) := by decide +kernel
theorem dX10_corners_113 : decode cX10_corners 113 = .ok (.goto (-76), 3) := by decide +kernel
theorem dX10_corners_116 : decode cX10_corners 116 = .ok (.iload 4, 2) := by decide +kernel
theorem dX10_corners_118 : decode cX10_corners 118 = .ok (.ireturn, 1) := by decide +kernel
set_option maxHeartbeats 4000000 in
set_option maxRecDepth 100000 in
theorem c_X10_corners (d : Nat) (TX : gTX) (P B s : gS) (hR0 : RC TX P B s) (t p : Int32) : gMt SC yX10_corners cX10_corners 6 (some .int) (d + 10) (fun ad => [.ref (ad 0), .int t, .int p]) s (gQi SC (fun r s' => RC TX P B s' ∧ r = s_corn TX P B t p)) := by
  obtain ⟨nT, n, l, hR⟩ := hR0
  have hI := hR.1
  have hn6 : n ≤ 6 := hI.2.2.1.2.1
  have hl6 : l < 6 := cI_l6 hI
  have hxn : x_n P = n := x_nOf hI.2.2.1.1 hn6
  have hbI := hR.2.2
  refine gMt_of SC_ok (by decide +kernel) (fun ad => [some (.ref (ad 0)), some (.int t), some (.int p), none, none, none]) (fun _ => rfl) (fun _ => rfl) (fun _ => Nat.le_of_ble_eq_true rfl) (fun E C0 => ?_)
  have C : gCx SC E RX10 cX10_corners 6 (some .int) (d + 10) := C0
  have fm : cI TX nT n l 45 P s := hI
  have fq : Fr mQ s s := Fr.rf
  refine G_aload_n (i := 0) C 1 dX10_corners_0 rfl rfl rfl ?_
  refine G_iload_n (i := 1) C 2 dX10_corners_1 rfl rfl rfl ?_
  refine G_calli 5 (G_runV C Kc_X10_refusalToJudge KV_X10_212 (by omega) (by decide) (eC _ _ _) rfl (c_X10_refusalToJudge 0 TX P B s (RC_q hR fq) t) rfl rfl rfl (Nat.le_of_ble_eq_true rfl) rfl dX10_corners_2) rfl (fun x2 s2 h2 => ?_)
  obtain ⟨es2, h2⟩ := h2
  have es2 := es2.symm
  subst es2
  refine G_istore_n (i := 3) (L' := [some (.ref (e_ad E 0)), some (.int t), some (.int p), some (.int x2), none, none]) C 6 dX10_corners_5 rfl rfl (Nat.le_of_ble_eq_true rfl) rfl rfl ?_
  refine G_iload_n (i := 3) C 7 dX10_corners_6 rfl rfl rfl ?_
  refine G_if_eq C 12 10 dX10_corners_7 rfl rfl (fun c7 => ?_) (fun c7 => ?_)
  ·
    have k7 := h2.symm.trans c7
    obtain ⟨ut, hut, eut, cut, z, hz20, ez⟩ := s_refI hbI.2.2.2.2.1 k7
    refine G_iload_n (i := 2) C 13 dX10_corners_12 rfl rfl rfl ?_
    refine G_iconst (v := (-1)) C 14 dX10_corners_13 rfl rfl ?_
    refine G_icmp_eq C 31 17 dX10_corners_14 rfl rfl (fun c14 => ?_) (fun c14 => ?_)
    ·
      refine G_iconst (v := 0) C 32 dX10_corners_31 rfl rfl ?_
      refine G_istore (L' := [some (.ref (e_ad E 0)), some (.int t), some (.int p), some (.int x2), some (.int 0), none]) C 34 dX10_corners_32 rfl (Nat.le_of_ble_eq_true rfl) rfl rfl ?_
      refine G_iconst (v := 0) C 35 dX10_corners_34 rfl rfl ?_
      refine G_istore (L' := [some (.ref (e_ad E 0)), some (.int t), some (.int p), some (.int x2), some (.int 0), some (.int 0)]) C 37 dX10_corners_35 rfl (Nat.le_of_ble_eq_true rfl) rfl rfl ?_
      have L37 : ∀ (f37 : Nat) (k : Nat) (fi y : Int32) (sl37 : gS) (Ey : y = nI k) (hk : k ≤ 9) (hfi : fi = x_fit TX B ut (fun v => g_up P 0 1 (nI v)) k) (fml37 : cI TX nT n l 45 P sl37) (fql37 : Fr mQ s sl37), 9 < k + f37 → GW SC E (gFin SC E (gQi SC (fun r s' => RC TX P B s' ∧ r = s_corn TX P B t p))) 37 [some (.ref (e_ad E 0)), some (.int t), some (.int p), some (.int x2), some (.int fi), some (.int y)] [] sl37 := by
        intro f37
        induction f37 with
        | zero =>
          intro k fi y sl37 Ey hk hfi fml37 fql37 hf37
          exact absurd hf37 (by omega)
        | succ f37 ih37 =>
          intro k fi y sl37 Ey hk hfi fml37 fql37 hf37
          refine G_iload C 39 dX10_corners_37 rfl rfl ?_
          refine G_bipush (v := 9) C 41 dX10_corners_39 rfl rfl ?_
          refine G_icmp_ge C 116 44 dX10_corners_41 rfl rfl (fun c41 => ?_) (fun c41 => ?_)
          ·
            have n41 : ¬ k < 9 := fun h => c41 ((g_ltN (a := k) (b := 9) (hx := Ey) (hy := rfl) (by omega) (by omega)).mpr h)
            refine G_iload C 118 dX10_corners_116 rfl rfl ?_
            exact G_iret C dX10_corners_118 (⟨RC_q hR fql37, by unfold s_corn; rw [if_pos k7, if_pos c14, cut, hfi, show k = 9 by omega]⟩)
          ·
            have n41 : k < 9 := (g_ltN (a := k) (b := 9) (hx := Ey) (hy := rfl) (by omega) (by omega)).mp c41
            refine G_aload_n (i := 0) C 45 dX10_corners_44 rfl rfl rfl ?_
            refine X10_61g C 48 dX10_corners_45 rfl ?_
            refine G_aload_n (i := 0) C 49 dX10_corners_48 rfl rfl rfl ?_
            refine X10_57g C 52 dX10_corners_49 rfl ?_
            refine G_callv 55 (G_runV C Kc_X9_become KV_X10_174 (by omega) (lW0 (Or.inr (Or.inl rfl))) (eW _ _ _ (Or.inr (Or.inl rfl))) rfl (c_X9_become 0 54 45 (Or.inr (Or.inl rfl)) (Or.inl rfl) (by decide) sl37) rfl rfl rfl (Nat.le_of_ble_eq_true rfl) rfl dX10_corners_52) rfl (fun s52 h52 => ?_)
            have fm_1 : cI TX nT n l 45 P s52 := cI_q fml37 (h52.1.UQ)
            have fq_1 : Fr mQ s s52 := Fr.tr fql37 (h52.1.UQ)
            have i_1 : cI TX nT n l 54 P s52 := cI_bec fm_1 h52.1 h52.2
            refine G_iload_n (i := 2) C 56 dX10_corners_55 rfl rfl rfl ?_
            refine G_iconst (v := (-1)) C 57 dX10_corners_56 rfl rfl ?_
            refine G_icmp_ne C 72 60 dX10_corners_57 rfl rfl (fun c57 => ?_) (fun c57 => ?_)
            ·
              exact absurd c14 c57
            ·
              refine G_aload_n (i := 0) C 61 dX10_corners_60 rfl rfl rfl ?_
              refine X10_61g C 64 dX10_corners_61 rfl ?_
              refine G_iload C 66 dX10_corners_64 rfl rfl ?_
              refine X10_122p C (Or.inr (Or.inl rfl)) 69 dX10_corners_66 rfl (fun s66 es66 => ?_)
              have fm_2 : cI TX nT n l 45 P s66 := cI_q fm_1 (Fr.up es66 (mQ_w (i := 0) (by decide)))
              have fq_2 : Fr mQ s s66 := Fr.tr fq_1 (Fr.up es66 (mQ_w (i := 0) (by decide)))
              have i_2 : cI TX nT n l 54 (g_up P 0 1 (nI k)) s66 := by have z := cI_corner i_1 es66 ⟨k, by omega, Ey⟩; rw [Ey] at z; exact z
              refine G_goto C 83 dX10_corners_69 rfl ?_
              refine G_iload C 85 dX10_corners_83 rfl rfl ?_
              refine G_aload_n (i := 0) C 86 dX10_corners_85 rfl rfl rfl ?_
              refine G_aload_n (i := 0) C 87 dX10_corners_86 rfl rfl rfl ?_
              refine X10_17g C 90 dX10_corners_87 rfl ?_
              refine G_iload_n (i := 1) C 91 dX10_corners_90 rfl rfl rfl ?_
              refine G_aald (r := (30 + 2 * ut)) C 92 (by decide) (eC2 _ _ _) (fun _ => rfl) (ut) eut (by omega) (by decide) rfl dX10_corners_91 rfl ?_
              refine G_calli 95 (G_runV C Kc_X10_otherwise KV_X10_215 (by omega) (by decide) (eC _ _ _) rfl (c_X10_otherwise 0 TX nT n l (g_up P 0 1 (nI k)) s66 i_2 ut (by omega) z hz20 (B (4 + ut)) ((cB_sz (Rc_q hR fq_2).2.1 hut).trans ez) (fun j hj => cB_nu (Rc_q hR fq_2).2.1 hut hj)) rfl rfl rfl (Nat.le_of_ble_eq_true rfl) rfl dX10_corners_92) rfl (fun x92 s92 h92 => ?_)
              have fm_3 : cI TX nT n l 45 P s92 := cI_q fm_2 (h92.1.Q)
              have fq_3 : Fr mQ s s92 := Fr.tr fq_2 (h92.1.Q)
              have hun : x92 = x_un TX B ut (g_up P 0 1 (nI k)) := by unfold x_un; rw [ez, nI_clamp (by omega)]; exact h92.2
              refine G_iconst (v := (-1)) C 96 dX10_corners_95 rfl rfl ?_
              refine G_icmp_ne C 106 99 dX10_corners_96 rfl rfl (fun c96 => ?_) (fun c96 => ?_)
              ·
                refine G_iconst (v := 0) C 107 dX10_corners_106 rfl rfl ?_
                refine G_ior C 108 dX10_corners_107 rfl (fun x107 ex107 => ?_)
                refine G_istore (L' := [some (.ref (e_ad E 0)), some (.int t), some (.int p), some (.int x2), some (.int x107), some (.int y)]) C 110 dX10_corners_108 rfl (Nat.le_of_ble_eq_true rfl) rfl rfl ?_
                refine G_iinc (w := 1) C 113 dX10_corners_110 rfl rfl rfl rfl (fun x110 ex110 => ?_)
                have Nx110 : x110 = nI (k + 1) := g_addN ex110 Ey rfl
                show GW SC E _ 113 [some (.ref (e_ad E 0)), some (.int t), some (.int p), some (.int x2), some (.int x107), some (.int x110)] [] s92
                refine G_goto C 37 dX10_corners_113 rfl ?_
                exact ih37 (k + 1) x107 x110 s92 (g_cn (a := (k + 1)) Nx110 (by first | rfl | omega | (simp only [List.length_cons, List.length_drop]; done) | (simp only [List.length_cons, List.length_drop]; omega))) (by omega) (by rw [x_fit, if_neg (by rw [← hun]; exact c96), ex107, y_or0, hfi]) fm_3 fq_3 (by omega)
              ·
                refine G_iconst (v := 1) C 100 dX10_corners_99 rfl rfl ?_
                refine G_iload C 102 dX10_corners_100 rfl rfl ?_
                refine G_ishl C 103 dX10_corners_102 rfl (fun x102 ex102 => ?_)
                refine G_goto C 107 dX10_corners_103 rfl ?_
                refine G_ior C 108 dX10_corners_107 rfl (fun x107 ex107 => ?_)
                refine G_istore (L' := [some (.ref (e_ad E 0)), some (.int t), some (.int p), some (.int x2), some (.int x107), some (.int y)]) C 110 dX10_corners_108 rfl (Nat.le_of_ble_eq_true rfl) rfl rfl ?_
                refine G_iinc (w := 1) C 113 dX10_corners_110 rfl rfl rfl rfl (fun x110 ex110 => ?_)
                have Nx110 : x110 = nI (k + 1) := g_addN ex110 Ey rfl
                show GW SC E _ 113 [some (.ref (e_ad E 0)), some (.int t), some (.int p), some (.int x2), some (.int x107), some (.int x110)] [] s92
                refine G_goto C 37 dX10_corners_113 rfl ?_
                exact ih37 (k + 1) x107 x110 s92 (g_cn (a := (k + 1)) Nx110 (by first | rfl | omega | (simp only [List.length_cons, List.length_drop]; done) | (simp only [List.length_cons, List.length_drop]; omega))) (by omega) (by rw [x_fit, if_pos (hun.symm.trans c96), ex107, ex102, Ey, hfi]) fm_3 fq_3 (by omega)
      exact L37 (9 + 1) 0 0 0 s (g_cn (a := 0) rfl (by first | rfl | omega)) (by omega) (rfl) fm fq (by omega)
    ·
      refine G_aload_n (i := 0) C 18 dX10_corners_17 rfl rfl rfl ?_
      refine X10_57g C 21 dX10_corners_18 rfl ?_
      refine G_iload_n (i := 2) C 22 dX10_corners_21 rfl rfl rfl ?_
      refine G_calli 25 (G_runV C Kc_X9_isOne KV_X10_139 (by omega) (lW0 (Or.inl rfl)) (eW _ _ _ (Or.inl rfl)) rfl (c_X9_isOne 0 45 n (Or.inl rfl) s (cI_n fm) p) rfl rfl rfl (Nat.le_of_ble_eq_true rfl) rfl dX10_corners_22) rfl (fun x22 s22 h22 => ?_)
      obtain ⟨es22, h22⟩ := h22
      have es22 := es22.symm
      subst es22
      refine G_if_ne C 31 28 dX10_corners_25 rfl rfl (fun c25 => ?_) (fun c25 => ?_)
      ·
        have k25 := g_neT h22 c25
        obtain ⟨up, hup, eup⟩ := x_oneT hn6 k25
        have cup : p.toNatClampNeg = up := by rw [eup, nI_clamp (by omega)]
        refine G_iconst (v := 0) C 32 dX10_corners_31 rfl rfl ?_
        refine G_istore (L' := [some (.ref (e_ad E 0)), some (.int t), some (.int p), some (.int x2), some (.int 0), none]) C 34 dX10_corners_32 rfl (Nat.le_of_ble_eq_true rfl) rfl rfl ?_
        refine G_iconst (v := 0) C 35 dX10_corners_34 rfl rfl ?_
        refine G_istore (L' := [some (.ref (e_ad E 0)), some (.int t), some (.int p), some (.int x2), some (.int 0), some (.int 0)]) C 37 dX10_corners_35 rfl (Nat.le_of_ble_eq_true rfl) rfl rfl ?_
        have L37 : ∀ (f37 : Nat) (k : Nat) (fi y : Int32) (sl37 : gS) (Ey : y = nI k) (hk : k ≤ 9) (hfi : fi = x_fit TX B ut (fun v => g_up P 2 up (nI v)) k) (fml37 : cI TX nT n l 45 P sl37) (fql37 : Fr mQ s sl37), 9 < k + f37 → GW SC E (gFin SC E (gQi SC (fun r s' => RC TX P B s' ∧ r = s_corn TX P B t p))) 37 [some (.ref (e_ad E 0)), some (.int t), some (.int p), some (.int x2), some (.int fi), some (.int y)] [] sl37 := by
          intro f37
          induction f37 with
          | zero =>
            intro k fi y sl37 Ey hk hfi fml37 fql37 hf37
            exact absurd hf37 (by omega)
          | succ f37 ih37 =>
            intro k fi y sl37 Ey hk hfi fml37 fql37 hf37
            refine G_iload C 39 dX10_corners_37 rfl rfl ?_
            refine G_bipush (v := 9) C 41 dX10_corners_39 rfl rfl ?_
            refine G_icmp_ge C 116 44 dX10_corners_41 rfl rfl (fun c41 => ?_) (fun c41 => ?_)
            ·
              have n41 : ¬ k < 9 := fun h => c41 ((g_ltN (a := k) (b := 9) (hx := Ey) (hy := rfl) (by omega) (by omega)).mpr h)
              refine G_iload C 118 dX10_corners_116 rfl rfl ?_
              exact G_iret C dX10_corners_118 (⟨RC_q hR fql37, by unfold s_corn; rw [if_pos k7, if_neg c14, hxn, if_neg k25, cut, cup, hfi, show k = 9 by omega]⟩)
            ·
              have n41 : k < 9 := (g_ltN (a := k) (b := 9) (hx := Ey) (hy := rfl) (by omega) (by omega)).mp c41
              refine G_aload_n (i := 0) C 45 dX10_corners_44 rfl rfl rfl ?_
              refine X10_61g C 48 dX10_corners_45 rfl ?_
              refine G_aload_n (i := 0) C 49 dX10_corners_48 rfl rfl rfl ?_
              refine X10_57g C 52 dX10_corners_49 rfl ?_
              refine G_callv 55 (G_runV C Kc_X9_become KV_X10_174 (by omega) (lW0 (Or.inr (Or.inl rfl))) (eW _ _ _ (Or.inr (Or.inl rfl))) rfl (c_X9_become 0 54 45 (Or.inr (Or.inl rfl)) (Or.inl rfl) (by decide) sl37) rfl rfl rfl (Nat.le_of_ble_eq_true rfl) rfl dX10_corners_52) rfl (fun s52 h52 => ?_)
              have fm_1 : cI TX nT n l 45 P s52 := cI_q fml37 (h52.1.UQ)
              have fq_1 : Fr mQ s s52 := Fr.tr fql37 (h52.1.UQ)
              have i_1 : cI TX nT n l 54 P s52 := cI_bec fm_1 h52.1 h52.2
              refine G_iload_n (i := 2) C 56 dX10_corners_55 rfl rfl rfl ?_
              refine G_iconst (v := (-1)) C 57 dX10_corners_56 rfl rfl ?_
              refine G_icmp_ne C 72 60 dX10_corners_57 rfl rfl (fun c57 => ?_) (fun c57 => ?_)
              ·
                refine G_aload_n (i := 0) C 73 dX10_corners_72 rfl rfl rfl ?_
                refine X10_61g C 76 dX10_corners_73 rfl ?_
                refine X10_184g C (Or.inr (Or.inl rfl)) 79 dX10_corners_76 rfl ?_
                refine G_iload_n (i := 2) C 80 dX10_corners_79 rfl rfl rfl ?_
                refine G_iload C 82 dX10_corners_80 rfl rfl ?_
                refine G_iast (n := 6) C 83 (lW (Or.inr (Or.inl rfl)) (by decide)) (fun σ => eW2 _ _ σ (Or.inr (Or.inl rfl))) (up) eup (by omega) (by decide) (Nat.le_of_eq (nWi (Or.inr (Or.inl rfl)) (by decide) (by decide)).symm) dX10_corners_82 rfl (fun s82 es82 => ?_)
                have fm_2 : cI TX nT n l 45 P s82 := cI_q fm_1 (Fr.up es82 (mQ_w (by decide)))
                have fq_2 : Fr mQ s s82 := Fr.tr fq_1 (Fr.up es82 (mQ_w (by decide)))
                have i_2 : cI TX nT n l 54 (g_up P 2 up (nI k)) s82 := by have z := cI_up2 i_1 es82; rw [Ey] at z; exact z
                refine G_iload C 85 dX10_corners_83 rfl rfl ?_
                refine G_aload_n (i := 0) C 86 dX10_corners_85 rfl rfl rfl ?_
                refine G_aload_n (i := 0) C 87 dX10_corners_86 rfl rfl rfl ?_
                refine X10_17g C 90 dX10_corners_87 rfl ?_
                refine G_iload_n (i := 1) C 91 dX10_corners_90 rfl rfl rfl ?_
                refine G_aald (r := (30 + 2 * ut)) C 92 (by decide) (eC2 _ _ _) (fun _ => rfl) (ut) eut (by omega) (by decide) rfl dX10_corners_91 rfl ?_
                refine G_calli 95 (G_runV C Kc_X10_otherwise KV_X10_215 (by omega) (by decide) (eC _ _ _) rfl (c_X10_otherwise 0 TX nT n l (g_up P 2 up (nI k)) s82 i_2 ut (by omega) z hz20 (B (4 + ut)) ((cB_sz (Rc_q hR fq_2).2.1 hut).trans ez) (fun j hj => cB_nu (Rc_q hR fq_2).2.1 hut hj)) rfl rfl rfl (Nat.le_of_ble_eq_true rfl) rfl dX10_corners_92) rfl (fun x92 s92 h92 => ?_)
                have fm_3 : cI TX nT n l 45 P s92 := cI_q fm_2 (h92.1.Q)
                have fq_3 : Fr mQ s s92 := Fr.tr fq_2 (h92.1.Q)
                have hun : x92 = x_un TX B ut (g_up P 2 up (nI k)) := by unfold x_un; rw [ez, nI_clamp (by omega)]; exact h92.2
                refine G_iconst (v := (-1)) C 96 dX10_corners_95 rfl rfl ?_
                refine G_icmp_ne C 106 99 dX10_corners_96 rfl rfl (fun c96 => ?_) (fun c96 => ?_)
                ·
                  refine G_iconst (v := 0) C 107 dX10_corners_106 rfl rfl ?_
                  refine G_ior C 108 dX10_corners_107 rfl (fun x107 ex107 => ?_)
                  refine G_istore (L' := [some (.ref (e_ad E 0)), some (.int t), some (.int p), some (.int x2), some (.int x107), some (.int y)]) C 110 dX10_corners_108 rfl (Nat.le_of_ble_eq_true rfl) rfl rfl ?_
                  refine G_iinc (w := 1) C 113 dX10_corners_110 rfl rfl rfl rfl (fun x110 ex110 => ?_)
                  have Nx110 : x110 = nI (k + 1) := g_addN ex110 Ey rfl
                  show GW SC E _ 113 [some (.ref (e_ad E 0)), some (.int t), some (.int p), some (.int x2), some (.int x107), some (.int x110)] [] s92
                  refine G_goto C 37 dX10_corners_113 rfl ?_
                  exact ih37 (k + 1) x107 x110 s92 (g_cn (a := (k + 1)) Nx110 (by first | rfl | omega | (simp only [List.length_cons, List.length_drop]; done) | (simp only [List.length_cons, List.length_drop]; omega))) (by omega) (by rw [x_fit, if_neg (by rw [← hun]; exact c96), ex107, y_or0, hfi]) fm_3 fq_3 (by omega)
                ·
                  refine G_iconst (v := 1) C 100 dX10_corners_99 rfl rfl ?_
                  refine G_iload C 102 dX10_corners_100 rfl rfl ?_
                  refine G_ishl C 103 dX10_corners_102 rfl (fun x102 ex102 => ?_)
                  refine G_goto C 107 dX10_corners_103 rfl ?_
                  refine G_ior C 108 dX10_corners_107 rfl (fun x107 ex107 => ?_)
                  refine G_istore (L' := [some (.ref (e_ad E 0)), some (.int t), some (.int p), some (.int x2), some (.int x107), some (.int y)]) C 110 dX10_corners_108 rfl (Nat.le_of_ble_eq_true rfl) rfl rfl ?_
                  refine G_iinc (w := 1) C 113 dX10_corners_110 rfl rfl rfl rfl (fun x110 ex110 => ?_)
                  have Nx110 : x110 = nI (k + 1) := g_addN ex110 Ey rfl
                  show GW SC E _ 113 [some (.ref (e_ad E 0)), some (.int t), some (.int p), some (.int x2), some (.int x107), some (.int x110)] [] s92
                  refine G_goto C 37 dX10_corners_113 rfl ?_
                  exact ih37 (k + 1) x107 x110 s92 (g_cn (a := (k + 1)) Nx110 (by first | rfl | omega | (simp only [List.length_cons, List.length_drop]; done) | (simp only [List.length_cons, List.length_drop]; omega))) (by omega) (by rw [x_fit, if_pos (hun.symm.trans c96), ex107, ex102, Ey, hfi]) fm_3 fq_3 (by omega)
              ·
                exact absurd c57 c14
        exact L37 (9 + 1) 0 0 0 s (g_cn (a := 0) rfl (by first | rfl | omega)) (by omega) (rfl) fm fq (by omega)
      ·
        have k25 := h22.symm.trans c25
        refine G_bipush (v := (-5)) C 30 dX10_corners_28 rfl rfl ?_
        exact G_iret C dX10_corners_30 (⟨RC_q hR fq, by unfold s_corn; rw [if_pos k7, if_neg c14, hxn, if_pos k25]⟩)
  ·
    have k7 := g_neT h2 c7
    refine G_iload_n (i := 3) C 11 dX10_corners_10 rfl rfl rfl ?_
    exact G_iret C dX10_corners_11 (⟨RC_q hR fq, by unfold s_corn; rw [if_neg k7]; exact h2⟩)
theorem dX10_turned_0 : decode cX10_turned 0 = .ok (.aload_n 0, 1) := by decide +kernel
theorem dX10_turned_1 : decode cX10_turned 1 = .ok (.iload_n 1, 1) := by decide +kernel
theorem dX10_turned_2 : decode cX10_turned 2 = .ok (.invokevirtual 212, 3) := by decide +kernel
theorem dX10_turned_5 : decode cX10_turned 5 = .ok (.istore 4, 2) := by decide +kernel
theorem dX10_turned_7 : decode cX10_turned 7 = .ok (.iload 4, 2) := by decide +kernel
theorem dX10_turned_9 : decode cX10_turned 9 = .ok (.ifCond .eq 6, 3) := by decide +kernel
theorem dX10_turned_12 : decode cX10_turned 12 = .ok (.iload 4, 2) := by decide +kernel
theorem dX10_turned_14 : decode cX10_turned 14 = .ok (.ireturn, 1) := by decide +kernel
theorem dX10_turned_15 : decode cX10_turned 15 = .ok (.aload_n 0, 1) := by decide +kernel
theorem dX10_turned_16 : decode cX10_turned 16 = .ok (.getfield 57, 3) := by decide +kernel
theorem dX10_turned_19 : decode cX10_turned 19 = .ok (.iload_n 2, 1) := by decide +kernel
theorem dX10_turned_20 : decode cX10_turned 20 = .ok (.invokevirtual 139, 3) := by decide +kernel
theorem dX10_turned_23 : decode cX10_turned 23 = .ok (.ifCond .ne 6, 3) := by decide +kernel
theorem dX10_turned_26 : decode cX10_turned 26 = .ok (.bipush (-5), 2) := by decide +kernel
theorem dX10_turned_28 : decode cX10_turned 28 = .ok (.ireturn, 1) := by decide +kernel
theorem dX10_turned_29 : decode cX10_turned 29 = .ok (.iload_n 3, 1) := by decide +kernel
theorem dX10_turned_30 : decode cX10_turned 30 = .ok (.iconst 1, 1) := by decide +kernel
theorem dX10_turned_31 : decode cX10_turned 31 = .ok (.iconst 2, 1) := by decide +kernel
theorem dX10_turned_32 : decode cX10_turned 32 = .ok (.invokestatic 112, 3) := by decide +kernel
theorem dX10_turned_35 : decode cX10_turned 35 = .ok (.ifCond .ne 6, 3) := by decide +kernel
theorem dX10_turned_38 : decode cX10_turned 38 = .ok (.bipush (-7), 2) := by decide +kernel
theorem dX10_turned_40 : decode cX10_turned 40 = .ok (.ireturn, 1) := by decide +kernel
theorem dX10_turned_41 : decode cX10_turned 41 = .ok (.aload_n 0, 1) := by decide +kernel
theorem dX10_turned_42 : decode cX10_turned 42 = .ok (.getfield 61, 3) := by decide +kernel
theorem dX10_turned_45 : decode cX10_turned 45 = .ok (.iload_n 3, 1) := by decide +kernel
theorem dX10_turned_46 : decode cX10_turned 46 = .ok (.invokevirtual 152, 3) := by decide +kernel
theorem dX10_turned_49 : decode cX10_turned 49 = .ok (.astore 5, 2) := by decide +kernel
theorem dX10_turned_51 : decode cX10_turned 51 = .ok (.iconst 0, 1) := by decide +kernel
theorem dX10_turned_52 : decode cX10_turned 52 = .ok (.istore 6, 2) := by decide +kernel
theorem dX10_turned_54 : decode cX10_turned 54 = .ok (.iconst 0, 1) := by decide +kernel
theorem dX10_turned_55 : decode cX10_turned 55 = .ok (.istore 7, 2) := by decide +kernel
theorem dX10_turned_57 : decode cX10_turned 57 = .ok (.iload 7, 2) := by decide +kernel
theorem dX10_turned_59 : decode cX10_turned 59 = .ok (.bipush 10, 2) := by decide +kernel
theorem dX10_turned_61 : decode cX10_turned 61 = .ok (.if_icmp .ge 58, 3) := by decide +kernel
theorem dX10_turned_64 : decode cX10_turned 64 = .ok (.aload_n 0, 1) := by decide +kernel
theorem dX10_turned_65 : decode cX10_turned 65 = .ok (.getfield 61, 3) := by decide +kernel
theorem dX10_turned_68 : decode cX10_turned 68 = .ok (.aload_n 0, 1) := by decide +kernel
theorem dX10_turned_69 : decode cX10_turned 69 = .ok (.getfield 57, 3) := by decide +kernel
theorem dX10_turned_72 : decode cX10_turned 72 = .ok (.invokevirtual 174, 3) := by decide +kernel
theorem dX10_turned_75 : decode cX10_turned 75 = .ok (.aload 5, 2) := by decide +kernel
theorem dX10_turned_77 : decode cX10_turned 77 = .ok (.iload_n 2, 1) := by decide +kernel
theorem dX10_turned_78 : decode cX10_turned 78 = .ok (.dup2, 1) := by decide +kernel
theorem dX10_turned_79 : decode cX10_turned 79 = .ok (.iaload, 1) := by decide +kernel
theorem dX10_turned_80 : decode cX10_turned 80 = .ok (.iconst 1, 1) := by decide +kernel
theorem dX10_turned_81 : decode cX10_turned 81 = .ok (.iload 7, 2) := by decide +kernel
theorem dX10_turned_83 : decode cX10_turned 83 = .ok (.ishl, 1) := by decide +kernel
theorem dX10_turned_84 : decode cX10_turned 84 = .ok (.ixor, 1) := by decide +kernel
theorem dX10_turned_85 : decode cX10_turned 85 = .ok (.iastore, 1) := by decide +kernel
theorem dX10_turned_86 : decode cX10_turned 86 = .ok (.iload 6, 2) := by decide +kernel
theorem dX10_turned_88 : decode cX10_turned 88 = .ok (.aload_n 0, 1) := by decide +kernel
theorem dX10_turned_89 : decode cX10_turned 89 = .ok (.aload_n 0, 1) := by decide +kernel
theorem dX10_turned_90 : decode cX10_turned 90 = .ok (.getfield 17, 3) := by decide +kernel
theorem dX10_turned_93 : decode cX10_turned 93 = .ok (.iload_n 1, 1) := by decide +kernel
theorem dX10_turned_94 : decode cX10_turned 94 = .ok (.aaload, 1) := by decide +kernel
theorem dX10_turned_95 : decode cX10_turned 95 = .ok (.invokevirtual 215, 3) := by decide +kernel
theorem dX10_turned_98 : decode cX10_turned 98 = .ok (.iconst (-1), 1) := by decide +kernel
theorem dX10_turned_99 : decode cX10_turned 99 = .ok (.if_icmp .ne 10, 3) := by decide +kernel
theorem dX10_turned_102 : decode cX10_turned 102 = .ok (.iconst 1, 1) := by decide +kernel
theorem dX10_turned_103 : decode cX10_turned 103 = .ok (.iload 7, 2) := by decide +kernel
theorem dX10_turned_105 : decode cX10_turned 105 = .ok (.ishl, 1) := by decide +kernel
theorem dX10_turned_106 : decode cX10_turned 106 = .ok (.goto 4, 3) := by decide +kernel
theorem dX10_turned_109 : decode cX10_turned 109 = .ok (.iconst 0, 1) := by decide +kernel
theorem dX10_turned_110 : decode cX10_turned 110 = .ok (.ior, 1) := by decide +kernel
theorem dX10_turned_111 : decode cX10_turned 111 = .ok (.istore 6, 2) := by decide +kernel
theorem dX10_turned_113 : decode cX10_turned 113 = .ok (.iinc 7 1, 3) := by decide +kernel
theorem dX10_turned_116 : decode cX10_turned 116 = .ok (.goto (-59), 3) := by decide +kernel
theorem dX10_turned_119 : decode cX10_turned 119 = .ok (.iload 6, 2) := by decide +kernel
theorem dX10_turned_121 : decode cX10_turned 121 = .ok (.ireturn, 1) := by decide +kernel
set_option maxHeartbeats 4000000 in
set_option maxRecDepth 100000 in
theorem c_X10_turned (d : Nat) (TX : gTX) (P B s : gS) (hR0 : RC TX P B s) (t p q : Int32) : gMt SC yX10_turned cX10_turned 8 (some .int) (d + 10) (fun ad => [.ref (ad 0), .int t, .int p, .int q]) s (gQi SC (fun r s' => RC TX P B s' ∧ r = s_turn TX P B t p q)) := by
  obtain ⟨nT, n, l, hR⟩ := hR0
  have hI := hR.1
  have hn6 : n ≤ 6 := hI.2.2.1.2.1
  have hl6 : l < 6 := cI_l6 hI
  have hxn : x_n P = n := x_nOf hI.2.2.1.1 hn6
  have hbI := hR.2.2
  refine gMt_of SC_ok (by decide +kernel) (fun ad => [some (.ref (ad 0)), some (.int t), some (.int p), some (.int q), none, none, none, none]) (fun _ => rfl) (fun _ => rfl) (fun _ => Nat.le_of_ble_eq_true rfl) (fun E C0 => ?_)
  have C : gCx SC E RX10 cX10_turned 8 (some .int) (d + 10) := C0
  have fm : cI TX nT n l 45 P s := hI
  have fq : Fr mQ s s := Fr.rf
  refine G_aload_n (i := 0) C 1 dX10_turned_0 rfl rfl rfl ?_
  refine G_iload_n (i := 1) C 2 dX10_turned_1 rfl rfl rfl ?_
  refine G_calli 5 (G_runV C Kc_X10_refusalToJudge KV_X10_212 (by omega) (by decide) (eC _ _ _) rfl (c_X10_refusalToJudge 0 TX P B s (RC_q hR fq) t) rfl rfl rfl (Nat.le_of_ble_eq_true rfl) rfl dX10_turned_2) rfl (fun x2 s2 h2 => ?_)
  obtain ⟨es2, h2⟩ := h2
  have es2 := es2.symm
  subst es2
  refine G_istore (L' := [some (.ref (e_ad E 0)), some (.int t), some (.int p), some (.int q), some (.int x2), none, none, none]) C 7 dX10_turned_5 rfl (Nat.le_of_ble_eq_true rfl) rfl rfl ?_
  refine G_iload C 9 dX10_turned_7 rfl rfl ?_
  refine G_if_eq C 15 12 dX10_turned_9 rfl rfl (fun c9 => ?_) (fun c9 => ?_)
  ·
    have k9 := h2.symm.trans c9
    obtain ⟨ut, hut, eut, cut, z, hz20, ez⟩ := s_refI hbI.2.2.2.2.1 k9
    refine G_aload_n (i := 0) C 16 dX10_turned_15 rfl rfl rfl ?_
    refine X10_57g C 19 dX10_turned_16 rfl ?_
    refine G_iload_n (i := 2) C 20 dX10_turned_19 rfl rfl rfl ?_
    refine G_calli 23 (G_runV C Kc_X9_isOne KV_X10_139 (by omega) (lW0 (Or.inl rfl)) (eW _ _ _ (Or.inl rfl)) rfl (c_X9_isOne 0 45 n (Or.inl rfl) s (cI_n fm) p) rfl rfl rfl (Nat.le_of_ble_eq_true rfl) rfl dX10_turned_20) rfl (fun x20 s20 h20 => ?_)
    obtain ⟨es20, h20⟩ := h20
    have es20 := es20.symm
    subst es20
    refine G_if_ne C 29 26 dX10_turned_23 rfl rfl (fun c23 => ?_) (fun c23 => ?_)
    ·
      have k23 := g_neT h20 c23
      obtain ⟨up, hup, eup⟩ := x_oneT hn6 k23
      have cup : p.toNatClampNeg = up := by rw [eup, nI_clamp (by omega)]
      refine G_iload_n (i := 3) C 30 dX10_turned_29 rfl rfl rfl ?_
      refine G_iconst (v := 1) C 31 dX10_turned_30 rfl rfl ?_
      refine G_iconst (v := 2) C 32 dX10_turned_31 rfl rfl ?_
      refine G_calli 35 (G_runS C Kc_X10_within KS_X10_112 (by omega) (c_X10_within 0 q 1 2 s) rfl rfl (Nat.le_of_ble_eq_true rfl) rfl dX10_turned_32) rfl (fun x32 s32 h32 => ?_)
      obtain ⟨es32, h32⟩ := h32
      have es32 := es32.symm
      subst es32
      refine G_if_ne C 41 38 dX10_turned_35 rfl rfl (fun c35 => ?_) (fun c35 => ?_)
      ·
        have k35 := g_neT h32 c35
        obtain ⟨uq, gq, huq, euq⟩ := x_inR1 (b := 2) k35 rfl (by decide)
        have zuq : uq = 1 ∨ uq = 2 := by omega
        rcases zuq with rfl | rfl
        ·
          obtain rfl : q = 1 := euq
          refine G_aload_n (i := 0) C 42 dX10_turned_41 rfl rfl rfl ?_
          refine X10_61g C 45 dX10_turned_42 rfl ?_
          refine G_iload_n (i := 3) C 46 dX10_turned_45 rfl rfl rfl ?_
          refine G_callr 49 (G_runV C Kc_X9_row KV_X10_152 (by omega) (lW0 (Or.inr (Or.inl rfl))) (eW _ _ _ (Or.inr (Or.inl rfl))) rfl (c_X9_row_1 0 54 (Or.inr (Or.inl rfl)) s) rfl rfl rfl (Nat.le_of_ble_eq_true rfl) rfl dX10_turned_46) rfl (fun q46 s46 h46 => ?_)
          obtain ⟨es46, h46⟩ := h46
          have es46 := es46.symm
          subst es46
          obtain rfl : q46 = 54 + 3 := h46
          refine G_astore (L' := [some (.ref (e_ad E 0)), some (.int t), some (.int p), some (.int 1), some (.int x2), some (.ref (e_ad E (54 + 3))), none, none]) C 51 dX10_turned_49 rfl (Nat.le_of_ble_eq_true rfl) rfl rfl ?_
          refine G_iconst (v := 0) C 52 dX10_turned_51 rfl rfl ?_
          refine G_istore (L' := [some (.ref (e_ad E 0)), some (.int t), some (.int p), some (.int 1), some (.int x2), some (.ref (e_ad E (54 + 3))), some (.int 0), none]) C 54 dX10_turned_52 rfl (Nat.le_of_ble_eq_true rfl) rfl rfl ?_
          refine G_iconst (v := 0) C 55 dX10_turned_54 rfl rfl ?_
          refine G_istore (L' := [some (.ref (e_ad E 0)), some (.int t), some (.int p), some (.int 1), some (.int x2), some (.ref (e_ad E (54 + 3))), some (.int 0), some (.int 0)]) C 57 dX10_turned_55 rfl (Nat.le_of_ble_eq_true rfl) rfl rfl ?_
          have L57 : ∀ (f57 : Nat) (k : Nat) (fi y : Int32) (sl57 : gS) (Ey : y = nI k) (hk : k ≤ 10) (hfi : fi = x_fit TX B ut (fun v => g_up P 3 up (P 3 up ^^^ ((1 : Int32) <<< (nI v &&& 31)))) k) (fml57 : cI TX nT n l 45 P sl57) (fql57 : Fr mQ s sl57), 10 < k + f57 → GW SC E (gFin SC E (gQi SC (fun r s' => RC TX P B s' ∧ r = s_turn TX P B t p 1))) 57 [some (.ref (e_ad E 0)), some (.int t), some (.int p), some (.int 1), some (.int x2), some (.ref (e_ad E (54 + 3))), some (.int fi), some (.int y)] [] sl57 := by
            intro f57
            induction f57 with
            | zero =>
              intro k fi y sl57 Ey hk hfi fml57 fql57 hf57
              exact absurd hf57 (by omega)
            | succ f57 ih57 =>
              intro k fi y sl57 Ey hk hfi fml57 fql57 hf57
              refine G_iload C 59 dX10_turned_57 rfl rfl ?_
              refine G_bipush (v := 10) C 61 dX10_turned_59 rfl rfl ?_
              refine G_icmp_ge C 119 64 dX10_turned_61 rfl rfl (fun c61 => ?_) (fun c61 => ?_)
              ·
                have n61 : ¬ k < 10 := fun h => c61 ((g_ltN (a := k) (b := 10) (hx := Ey) (hy := rfl) (by omega) (by omega)).mpr h)
                refine G_iload C 121 dX10_turned_119 rfl rfl ?_
                exact G_iret C dX10_turned_121 (⟨RC_q hR fql57, by unfold s_turn; rw [if_pos k9, hxn, if_neg k23, if_neg k35, cut, cup, hfi, show k = 10 by omega]; rfl⟩)
              ·
                have n61 : k < 10 := (g_ltN (a := k) (b := 10) (hx := Ey) (hy := rfl) (by omega) (by omega)).mp c61
                refine G_aload_n (i := 0) C 65 dX10_turned_64 rfl rfl rfl ?_
                refine X10_61g C 68 dX10_turned_65 rfl ?_
                refine G_aload_n (i := 0) C 69 dX10_turned_68 rfl rfl rfl ?_
                refine X10_57g C 72 dX10_turned_69 rfl ?_
                refine G_callv 75 (G_runV C Kc_X9_become KV_X10_174 (by omega) (lW0 (Or.inr (Or.inl rfl))) (eW _ _ _ (Or.inr (Or.inl rfl))) rfl (c_X9_become 0 54 45 (Or.inr (Or.inl rfl)) (Or.inl rfl) (by decide) sl57) rfl rfl rfl (Nat.le_of_ble_eq_true rfl) rfl dX10_turned_72) rfl (fun s72 h72 => ?_)
                have fm_1 : cI TX nT n l 45 P s72 := cI_q fml57 (h72.1.UQ)
                have fq_1 : Fr mQ s s72 := Fr.tr fql57 (h72.1.UQ)
                have i_1 : cI TX nT n l 54 P s72 := cI_bec fm_1 h72.1 h72.2
                refine G_aload C 77 dX10_turned_75 rfl rfl ?_
                refine G_iload_n (i := 2) C 78 dX10_turned_77 rfl rfl rfl ?_
                refine G_dup2 C 79 dX10_turned_78 rfl rfl rfl ?_
                refine G_iald (n := 6) C 80 (lW (Or.inr (Or.inl rfl)) (by decide)) (eW3 _ _ _ (Or.inr (Or.inl rfl))) (up) eup (by omega) (by decide) dX10_turned_79 rfl (fun x79 ex79 => ?_)
                have Sx79 : x79 = P 3 (up) := ex79.trans (congrFun (congrFun i_1.2.1 3) _)
                obtain ⟨mx79, hmx79, emx79⟩ := (cI_p i_1 (p := up) (by omega)).2.1
                refine G_iconst (v := 1) C 81 dX10_turned_80 rfl rfl ?_
                refine G_iload C 83 dX10_turned_81 rfl rfl ?_
                refine G_ishl C 84 dX10_turned_83 rfl (fun x83 ex83 => ?_)
                refine G_ixor C 85 dX10_turned_84 rfl (fun x84 ex84 => ?_)
                refine G_iast (n := 6) C 86 (lW (Or.inr (Or.inl rfl)) (by decide)) (fun σ => eW3 _ _ σ (Or.inr (Or.inl rfl))) (up) eup (by omega) (by decide) (Nat.le_of_eq (nWi (Or.inr (Or.inl rfl)) (by decide) (by decide)).symm) dX10_turned_85 rfl (fun s85 es85 => ?_)
                have fm_2 : cI TX nT n l 45 P s85 := cI_q fm_1 (Fr.up es85 (mQ_w (by decide)))
                have fq_2 : Fr mQ s s85 := Fr.tr fq_1 (Fr.up es85 (mQ_w (by decide)))
                have i_2 : cI TX nT n l 54 (g_up P 3 up (P 3 up ^^^ ((1 : Int32) <<< (nI k &&& 31)))) s85 := by have z := cI_up3 i_1 es85 (by rw [ex84, ex83, Ey, Sx79]; exact bt_xor1024 ⟨mx79, hmx79, emx79⟩ (bt_1024p (by omega))); rw [ex84, ex83, Ey, Sx79] at z; exact z
                refine G_iload C 88 dX10_turned_86 rfl rfl ?_
                refine G_aload_n (i := 0) C 89 dX10_turned_88 rfl rfl rfl ?_
                refine G_aload_n (i := 0) C 90 dX10_turned_89 rfl rfl rfl ?_
                refine X10_17g C 93 dX10_turned_90 rfl ?_
                refine G_iload_n (i := 1) C 94 dX10_turned_93 rfl rfl rfl ?_
                refine G_aald (r := (30 + 2 * ut)) C 95 (by decide) (eC2 _ _ _) (fun _ => rfl) (ut) eut (by omega) (by decide) rfl dX10_turned_94 rfl ?_
                refine G_calli 98 (G_runV C Kc_X10_otherwise KV_X10_215 (by omega) (by decide) (eC _ _ _) rfl (c_X10_otherwise 0 TX nT n l (g_up P 3 up (P 3 up ^^^ ((1 : Int32) <<< (nI k &&& 31)))) s85 i_2 ut (by omega) z hz20 (B (4 + ut)) ((cB_sz (Rc_q hR fq_2).2.1 hut).trans ez) (fun j hj => cB_nu (Rc_q hR fq_2).2.1 hut hj)) rfl rfl rfl (Nat.le_of_ble_eq_true rfl) rfl dX10_turned_95) rfl (fun x95 s95 h95 => ?_)
                have fm_3 : cI TX nT n l 45 P s95 := cI_q fm_2 (h95.1.Q)
                have fq_3 : Fr mQ s s95 := Fr.tr fq_2 (h95.1.Q)
                have hun : x95 = x_un TX B ut (g_up P 3 up (P 3 up ^^^ ((1 : Int32) <<< (nI k &&& 31)))) := by unfold x_un; rw [ez, nI_clamp (by omega)]; exact h95.2
                refine G_iconst (v := (-1)) C 99 dX10_turned_98 rfl rfl ?_
                refine G_icmp_ne C 109 102 dX10_turned_99 rfl rfl (fun c99 => ?_) (fun c99 => ?_)
                ·
                  refine G_iconst (v := 0) C 110 dX10_turned_109 rfl rfl ?_
                  refine G_ior C 111 dX10_turned_110 rfl (fun x110 ex110 => ?_)
                  refine G_istore (L' := [some (.ref (e_ad E 0)), some (.int t), some (.int p), some (.int 1), some (.int x2), some (.ref (e_ad E (54 + 3))), some (.int x110), some (.int y)]) C 113 dX10_turned_111 rfl (Nat.le_of_ble_eq_true rfl) rfl rfl ?_
                  refine G_iinc (w := 1) C 116 dX10_turned_113 rfl rfl rfl rfl (fun x113 ex113 => ?_)
                  have Nx113 : x113 = nI (k + 1) := g_addN ex113 Ey rfl
                  show GW SC E _ 116 [some (.ref (e_ad E 0)), some (.int t), some (.int p), some (.int 1), some (.int x2), some (.ref (e_ad E (54 + 3))), some (.int x110), some (.int x113)] [] s95
                  refine G_goto C 57 dX10_turned_116 rfl ?_
                  exact ih57 (k + 1) x110 x113 s95 (g_cn (a := (k + 1)) Nx113 (by first | rfl | omega | (simp only [List.length_cons, List.length_drop]; done) | (simp only [List.length_cons, List.length_drop]; omega))) (by omega) (by rw [x_fit, if_neg (by rw [← hun]; exact c99), ex110, y_or0, hfi]) fm_3 fq_3 (by omega)
                ·
                  refine G_iconst (v := 1) C 103 dX10_turned_102 rfl rfl ?_
                  refine G_iload C 105 dX10_turned_103 rfl rfl ?_
                  refine G_ishl C 106 dX10_turned_105 rfl (fun x105 ex105 => ?_)
                  refine G_goto C 110 dX10_turned_106 rfl ?_
                  refine G_ior C 111 dX10_turned_110 rfl (fun x110 ex110 => ?_)
                  refine G_istore (L' := [some (.ref (e_ad E 0)), some (.int t), some (.int p), some (.int 1), some (.int x2), some (.ref (e_ad E (54 + 3))), some (.int x110), some (.int y)]) C 113 dX10_turned_111 rfl (Nat.le_of_ble_eq_true rfl) rfl rfl ?_
                  refine G_iinc (w := 1) C 116 dX10_turned_113 rfl rfl rfl rfl (fun x113 ex113 => ?_)
                  have Nx113 : x113 = nI (k + 1) := g_addN ex113 Ey rfl
                  show GW SC E _ 116 [some (.ref (e_ad E 0)), some (.int t), some (.int p), some (.int 1), some (.int x2), some (.ref (e_ad E (54 + 3))), some (.int x110), some (.int x113)] [] s95
                  refine G_goto C 57 dX10_turned_116 rfl ?_
                  exact ih57 (k + 1) x110 x113 s95 (g_cn (a := (k + 1)) Nx113 (by first | rfl | omega | (simp only [List.length_cons, List.length_drop]; done) | (simp only [List.length_cons, List.length_drop]; omega))) (by omega) (by rw [x_fit, if_pos (hun.symm.trans c99), ex110, ex105, Ey, hfi]) fm_3 fq_3 (by omega)
          exact L57 (10 + 1) 0 0 0 s (g_cn (a := 0) rfl (by first | rfl | omega)) (by omega) (rfl) fm fq (by omega)
        ·
          obtain rfl : q = 2 := euq
          refine G_aload_n (i := 0) C 42 dX10_turned_41 rfl rfl rfl ?_
          refine X10_61g C 45 dX10_turned_42 rfl ?_
          refine G_iload_n (i := 3) C 46 dX10_turned_45 rfl rfl rfl ?_
          refine G_callr 49 (G_runV C Kc_X9_row KV_X10_152 (by omega) (lW0 (Or.inr (Or.inl rfl))) (eW _ _ _ (Or.inr (Or.inl rfl))) rfl (c_X9_row_2 0 54 (Or.inr (Or.inl rfl)) s) rfl rfl rfl (Nat.le_of_ble_eq_true rfl) rfl dX10_turned_46) rfl (fun q46 s46 h46 => ?_)
          obtain ⟨es46, h46⟩ := h46
          have es46 := es46.symm
          subst es46
          obtain rfl : q46 = 54 + 4 := h46
          refine G_astore (L' := [some (.ref (e_ad E 0)), some (.int t), some (.int p), some (.int 2), some (.int x2), some (.ref (e_ad E (54 + 4))), none, none]) C 51 dX10_turned_49 rfl (Nat.le_of_ble_eq_true rfl) rfl rfl ?_
          refine G_iconst (v := 0) C 52 dX10_turned_51 rfl rfl ?_
          refine G_istore (L' := [some (.ref (e_ad E 0)), some (.int t), some (.int p), some (.int 2), some (.int x2), some (.ref (e_ad E (54 + 4))), some (.int 0), none]) C 54 dX10_turned_52 rfl (Nat.le_of_ble_eq_true rfl) rfl rfl ?_
          refine G_iconst (v := 0) C 55 dX10_turned_54 rfl rfl ?_
          refine G_istore (L' := [some (.ref (e_ad E 0)), some (.int t), some (.int p), some (.int 2), some (.int x2), some (.ref (e_ad E (54 + 4))), some (.int 0), some (.int 0)]) C 57 dX10_turned_55 rfl (Nat.le_of_ble_eq_true rfl) rfl rfl ?_
          have L57 : ∀ (f57 : Nat) (k : Nat) (fi y : Int32) (sl57 : gS) (Ey : y = nI k) (hk : k ≤ 10) (hfi : fi = x_fit TX B ut (fun v => g_up P 4 up (P 4 up ^^^ ((1 : Int32) <<< (nI v &&& 31)))) k) (fml57 : cI TX nT n l 45 P sl57) (fql57 : Fr mQ s sl57), 10 < k + f57 → GW SC E (gFin SC E (gQi SC (fun r s' => RC TX P B s' ∧ r = s_turn TX P B t p 2))) 57 [some (.ref (e_ad E 0)), some (.int t), some (.int p), some (.int 2), some (.int x2), some (.ref (e_ad E (54 + 4))), some (.int fi), some (.int y)] [] sl57 := by
            intro f57
            induction f57 with
            | zero =>
              intro k fi y sl57 Ey hk hfi fml57 fql57 hf57
              exact absurd hf57 (by omega)
            | succ f57 ih57 =>
              intro k fi y sl57 Ey hk hfi fml57 fql57 hf57
              refine G_iload C 59 dX10_turned_57 rfl rfl ?_
              refine G_bipush (v := 10) C 61 dX10_turned_59 rfl rfl ?_
              refine G_icmp_ge C 119 64 dX10_turned_61 rfl rfl (fun c61 => ?_) (fun c61 => ?_)
              ·
                have n61 : ¬ k < 10 := fun h => c61 ((g_ltN (a := k) (b := 10) (hx := Ey) (hy := rfl) (by omega) (by omega)).mpr h)
                refine G_iload C 121 dX10_turned_119 rfl rfl ?_
                exact G_iret C dX10_turned_121 (⟨RC_q hR fql57, by unfold s_turn; rw [if_pos k9, hxn, if_neg k23, if_neg k35, cut, cup, hfi, show k = 10 by omega]; rfl⟩)
              ·
                have n61 : k < 10 := (g_ltN (a := k) (b := 10) (hx := Ey) (hy := rfl) (by omega) (by omega)).mp c61
                refine G_aload_n (i := 0) C 65 dX10_turned_64 rfl rfl rfl ?_
                refine X10_61g C 68 dX10_turned_65 rfl ?_
                refine G_aload_n (i := 0) C 69 dX10_turned_68 rfl rfl rfl ?_
                refine X10_57g C 72 dX10_turned_69 rfl ?_
                refine G_callv 75 (G_runV C Kc_X9_become KV_X10_174 (by omega) (lW0 (Or.inr (Or.inl rfl))) (eW _ _ _ (Or.inr (Or.inl rfl))) rfl (c_X9_become 0 54 45 (Or.inr (Or.inl rfl)) (Or.inl rfl) (by decide) sl57) rfl rfl rfl (Nat.le_of_ble_eq_true rfl) rfl dX10_turned_72) rfl (fun s72 h72 => ?_)
                have fm_1 : cI TX nT n l 45 P s72 := cI_q fml57 (h72.1.UQ)
                have fq_1 : Fr mQ s s72 := Fr.tr fql57 (h72.1.UQ)
                have i_1 : cI TX nT n l 54 P s72 := cI_bec fm_1 h72.1 h72.2
                refine G_aload C 77 dX10_turned_75 rfl rfl ?_
                refine G_iload_n (i := 2) C 78 dX10_turned_77 rfl rfl rfl ?_
                refine G_dup2 C 79 dX10_turned_78 rfl rfl rfl ?_
                refine G_iald (n := 6) C 80 (lW (Or.inr (Or.inl rfl)) (by decide)) (eW4 _ _ _ (Or.inr (Or.inl rfl))) (up) eup (by omega) (by decide) dX10_turned_79 rfl (fun x79 ex79 => ?_)
                have Sx79 : x79 = P 4 (up) := ex79.trans (congrFun (congrFun i_1.2.1 4) _)
                obtain ⟨mx79, hmx79, emx79⟩ := (cI_p i_1 (p := up) (by omega)).2.2
                refine G_iconst (v := 1) C 81 dX10_turned_80 rfl rfl ?_
                refine G_iload C 83 dX10_turned_81 rfl rfl ?_
                refine G_ishl C 84 dX10_turned_83 rfl (fun x83 ex83 => ?_)
                refine G_ixor C 85 dX10_turned_84 rfl (fun x84 ex84 => ?_)
                refine G_iast (n := 6) C 86 (lW (Or.inr (Or.inl rfl)) (by decide)) (fun σ => eW4 _ _ σ (Or.inr (Or.inl rfl))) (up) eup (by omega) (by decide) (Nat.le_of_eq (nWi (Or.inr (Or.inl rfl)) (by decide) (by decide)).symm) dX10_turned_85 rfl (fun s85 es85 => ?_)
                have fm_2 : cI TX nT n l 45 P s85 := cI_q fm_1 (Fr.up es85 (mQ_w (by decide)))
                have fq_2 : Fr mQ s s85 := Fr.tr fq_1 (Fr.up es85 (mQ_w (by decide)))
                have i_2 : cI TX nT n l 54 (g_up P 4 up (P 4 up ^^^ ((1 : Int32) <<< (nI k &&& 31)))) s85 := by have z := cI_up4 i_1 es85 (by rw [ex84, ex83, Ey, Sx79]; exact bt_xor1024 ⟨mx79, hmx79, emx79⟩ (bt_1024p (by omega))); rw [ex84, ex83, Ey, Sx79] at z; exact z
                refine G_iload C 88 dX10_turned_86 rfl rfl ?_
                refine G_aload_n (i := 0) C 89 dX10_turned_88 rfl rfl rfl ?_
                refine G_aload_n (i := 0) C 90 dX10_turned_89 rfl rfl rfl ?_
                refine X10_17g C 93 dX10_turned_90 rfl ?_
                refine G_iload_n (i := 1) C 94 dX10_turned_93 rfl rfl rfl ?_
                refine G_aald (r := (30 + 2 * ut)) C 95 (by decide) (eC2 _ _ _) (fun _ => rfl) (ut) eut (by omega) (by decide) rfl dX10_turned_94 rfl ?_
                refine G_calli 98 (G_runV C Kc_X10_otherwise KV_X10_215 (by omega) (by decide) (eC _ _ _) rfl (c_X10_otherwise 0 TX nT n l (g_up P 4 up (P 4 up ^^^ ((1 : Int32) <<< (nI k &&& 31)))) s85 i_2 ut (by omega) z hz20 (B (4 + ut)) ((cB_sz (Rc_q hR fq_2).2.1 hut).trans ez) (fun j hj => cB_nu (Rc_q hR fq_2).2.1 hut hj)) rfl rfl rfl (Nat.le_of_ble_eq_true rfl) rfl dX10_turned_95) rfl (fun x95 s95 h95 => ?_)
                have fm_3 : cI TX nT n l 45 P s95 := cI_q fm_2 (h95.1.Q)
                have fq_3 : Fr mQ s s95 := Fr.tr fq_2 (h95.1.Q)
                have hun : x95 = x_un TX B ut (g_up P 4 up (P 4 up ^^^ ((1 : Int32) <<< (nI k &&& 31)))) := by unfold x_un; rw [ez, nI_clamp (by omega)]; exact h95.2
                refine G_iconst (v := (-1)) C 99 dX10_turned_98 rfl rfl ?_
                refine G_icmp_ne C 109 102 dX10_turned_99 rfl rfl (fun c99 => ?_) (fun c99 => ?_)
                ·
                  refine G_iconst (v := 0) C 110 dX10_turned_109 rfl rfl ?_
                  refine G_ior C 111 dX10_turned_110 rfl (fun x110 ex110 => ?_)
                  refine G_istore (L' := [some (.ref (e_ad E 0)), some (.int t), some (.int p), some (.int 2), some (.int x2), some (.ref (e_ad E (54 + 4))), some (.int x110), some (.int y)]) C 113 dX10_turned_111 rfl (Nat.le_of_ble_eq_true rfl) rfl rfl ?_
                  refine G_iinc (w := 1) C 116 dX10_turned_113 rfl rfl rfl rfl (fun x113 ex113 => ?_)
                  have Nx113 : x113 = nI (k + 1) := g_addN ex113 Ey rfl
                  show GW SC E _ 116 [some (.ref (e_ad E 0)), some (.int t), some (.int p), some (.int 2), some (.int x2), some (.ref (e_ad E (54 + 4))), some (.int x110), some (.int x113)] [] s95
                  refine G_goto C 57 dX10_turned_116 rfl ?_
                  exact ih57 (k + 1) x110 x113 s95 (g_cn (a := (k + 1)) Nx113 (by first | rfl | omega | (simp only [List.length_cons, List.length_drop]; done) | (simp only [List.length_cons, List.length_drop]; omega))) (by omega) (by rw [x_fit, if_neg (by rw [← hun]; exact c99), ex110, y_or0, hfi]) fm_3 fq_3 (by omega)
                ·
                  refine G_iconst (v := 1) C 103 dX10_turned_102 rfl rfl ?_
                  refine G_iload C 105 dX10_turned_103 rfl rfl ?_
                  refine G_ishl C 106 dX10_turned_105 rfl (fun x105 ex105 => ?_)
                  refine G_goto C 110 dX10_turned_106 rfl ?_
                  refine G_ior C 111 dX10_turned_110 rfl (fun x110 ex110 => ?_)
                  refine G_istore (L' := [some (.ref (e_ad E 0)), some (.int t), some (.int p), some (.int 2), some (.int x2), some (.ref (e_ad E (54 + 4))), some (.int x110), some (.int y)]) C 113 dX10_turned_111 rfl (Nat.le_of_ble_eq_true rfl) rfl rfl ?_
                  refine G_iinc (w := 1) C 116 dX10_turned_113 rfl rfl rfl rfl (fun x113 ex113 => ?_)
                  have Nx113 : x113 = nI (k + 1) := g_addN ex113 Ey rfl
                  show GW SC E _ 116 [some (.ref (e_ad E 0)), some (.int t), some (.int p), some (.int 2), some (.int x2), some (.ref (e_ad E (54 + 4))), some (.int x110), some (.int x113)] [] s95
                  refine G_goto C 57 dX10_turned_116 rfl ?_
                  exact ih57 (k + 1) x110 x113 s95 (g_cn (a := (k + 1)) Nx113 (by first | rfl | omega | (simp only [List.length_cons, List.length_drop]; done) | (simp only [List.length_cons, List.length_drop]; omega))) (by omega) (by rw [x_fit, if_pos (hun.symm.trans c99), ex110, ex105, Ey, hfi]) fm_3 fq_3 (by omega)
          exact L57 (10 + 1) 0 0 0 s (g_cn (a := 0) rfl (by first | rfl | omega)) (by omega) (rfl) fm fq (by omega)
      ·
        have k35 := h32.symm.trans c35
        refine G_bipush (v := (-7)) C 40 dX10_turned_38 rfl rfl ?_
        exact G_iret C dX10_turned_40 (⟨RC_q hR fq, by unfold s_turn; rw [if_pos k9, hxn, if_neg k23, if_pos k35]⟩)
    ·
      have k23 := h20.symm.trans c23
      refine G_bipush (v := (-5)) C 28 dX10_turned_26 rfl rfl ?_
      exact G_iret C dX10_turned_28 (⟨RC_q hR fq, by unfold s_turn; rw [if_pos k9, hxn, if_pos k23]⟩)
  ·
    have k9 := g_neT h2 c9
    refine G_iload C 14 dX10_turned_12 rfl rfl ?_
    exact G_iret C dX10_turned_14 (⟨RC_q hR fq, by unfold s_turn; rw [if_neg k9]; exact h2⟩)
theorem dX10_evils_0 : decode cX10_evils 0 = .ok (.aload_n 0, 1) := by decide +kernel
theorem dX10_evils_1 : decode cX10_evils 1 = .ok (.iload_n 1, 1) := by decide +kernel
theorem dX10_evils_2 : decode cX10_evils 2 = .ok (.invokevirtual 212, 3) := by decide +kernel
theorem dX10_evils_5 : decode cX10_evils 5 = .ok (.istore 4, 2) := by decide +kernel
theorem dX10_evils_7 : decode cX10_evils 7 = .ok (.iload 4, 2) := by decide +kernel
theorem dX10_evils_9 : decode cX10_evils 9 = .ok (.ifCond .eq 6, 3) := by decide +kernel
theorem dX10_evils_12 : decode cX10_evils 12 = .ok (.iload 4, 2) := by decide +kernel
theorem dX10_evils_14 : decode cX10_evils 14 = .ok (.ireturn, 1) := by decide +kernel
theorem dX10_evils_15 : decode cX10_evils 15 = .ok (.iload_n 2, 1) := by decide +kernel
theorem dX10_evils_16 : decode cX10_evils 16 = .ok (.iconst 0, 1) := by decide +kernel
theorem dX10_evils_17 : decode cX10_evils 17 = .ok (.bipush 9, 2) := by decide +kernel
theorem dX10_evils_19 : decode cX10_evils 19 = .ok (.invokestatic 112, 3) := by decide +kernel
theorem dX10_evils_22 : decode cX10_evils 22 = .ok (.ifCond .ne 6, 3) := by decide +kernel
theorem dX10_evils_25 : decode cX10_evils 25 = .ok (.bipush (-5), 2) := by decide +kernel
theorem dX10_evils_27 : decode cX10_evils 27 = .ok (.ireturn, 1) := by decide +kernel
theorem dX10_evils_28 : decode cX10_evils 28 = .ok (.iload_n 3, 1) := by decide +kernel
theorem dX10_evils_29 : decode cX10_evils 29 = .ok (.iconst 0, 1) := by decide +kernel
theorem dX10_evils_30 : decode cX10_evils 30 = .ok (.iconst 1, 1) := by decide +kernel
theorem dX10_evils_31 : decode cX10_evils 31 = .ok (.invokestatic 112, 3) := by decide +kernel
theorem dX10_evils_34 : decode cX10_evils 34 = .ok (.ifCond .ne 6, 3) := by decide +kernel
theorem dX10_evils_37 : decode cX10_evils 37 = .ok (.bipush (-7), 2) := by decide +kernel
theorem dX10_evils_39 : decode cX10_evils 39 = .ok (.ireturn, 1) := by decide +kernel
theorem dX10_evils_40 : decode cX10_evils 40 = .ok (.iconst 0, 1) := by decide +kernel
theorem dX10_evils_41 : decode cX10_evils 41 = .ok (.istore 5, 2) := by decide +kernel
theorem dX10_evils_43 : decode cX10_evils 43 = .ok (.iconst (-1), 1) := by decide +kernel
theorem dX10_evils_44 : decode cX10_evils 44 = .ok (.istore 6, 2) := by decide +kernel
theorem dX10_evils_46 : decode cX10_evils 46 = .ok (.bipush 99, 2) := by decide +kernel
theorem dX10_evils_48 : decode cX10_evils 48 = .ok (.istore 7, 2) := by decide +kernel
theorem dX10_evils_50 : decode cX10_evils 50 = .ok (.iload 7, 2) := by decide +kernel
theorem dX10_evils_52 : decode cX10_evils 52 = .ok (.ifCond .lt 52, 3) := by decide +kernel
theorem dX10_evils_55 : decode cX10_evils 55 = .ok (.aload_n 0, 1) := by decide +kernel
theorem dX10_evils_56 : decode cX10_evils 56 = .ok (.getfield 61, 3) := by decide +kernel
theorem dX10_evils_59 : decode cX10_evils 59 = .ok (.aload_n 0, 1) := by decide +kernel
theorem dX10_evils_60 : decode cX10_evils 60 = .ok (.getfield 57, 3) := by decide +kernel
theorem dX10_evils_63 : decode cX10_evils 63 = .ok (.invokevirtual 174, 3) := by decide +kernel
theorem dX10_evils_66 : decode cX10_evils 66 = .ok (.aload_n 0, 1) := by decide +kernel
theorem dX10_evils_67 : decode cX10_evils 67 = .ok (.getfield 61, 3) := by decide +kernel
theorem dX10_evils_70 : decode cX10_evils 70 = .ok (.getfield 125, 3) := by decide +kernel
theorem dX10_evils_73 : decode cX10_evils 73 = .ok (.iload_n 2, 1) := by decide +kernel
theorem dX10_evils_74 : decode cX10_evils 74 = .ok (.iload 7, 2) := by decide +kernel
theorem dX10_evils_76 : decode cX10_evils 76 = .ok (.iastore, 1) := by decide +kernel
theorem dX10_evils_77 : decode cX10_evils 77 = .ok (.aload_n 0, 1) := by decide +kernel
theorem dX10_evils_78 : decode cX10_evils 78 = .ok (.aload_n 0, 1) := by decide +kernel
theorem dX10_evils_79 : decode cX10_evils 79 = .ok (.getfield 17, 3) := by decide +kernel
theorem dX10_evils_82 : decode cX10_evils 82 = .ok (.iload_n 1, 1) := by decide +kernel
theorem dX10_evils_83 : decode cX10_evils 83 = .ok (.aaload, 1) := by decide +kernel
theorem dX10_evils_84 : decode cX10_evils 84 = .ok (.invokevirtual 215, 3) := by decide +kernel
theorem dX10_evils_87 : decode cX10_evils 87 = .ok (.iconst (-1), 1) := by decide +kernel
theorem dX10_evils_88 : decode cX10_evils 88 = .ok (.if_icmp .ne 10, 3) := by decide +kernel
theorem dX10_evils_91 : decode cX10_evils 91 = .ok (.iinc 5 1, 3) := by decide +kernel
theorem dX10_evils_94 : decode cX10_evils 94 = .ok (.iload 7, 2) := by decide +kernel
theorem dX10_evils_96 : decode cX10_evils 96 = .ok (.istore 6, 2) := by decide +kernel
theorem dX10_evils_98 : decode cX10_evils 98 = .ok (.iinc 7 (-1), 3) := by decide +kernel
theorem dX10_evils_101 : decode cX10_evils 101 = .ok (.goto (-51), 3) := by decide +kernel
theorem dX10_evils_104 : decode cX10_evils 104 = .ok (.iload_n 3, 1) := by decide +kernel
theorem dX10_evils_105 : decode cX10_evils 105 = .ok (.ifCond .ne 8, 3) := by decide +kernel
theorem dX10_evils_108 : decode cX10_evils 108 = .ok (.iload 5, 2) := by decide +kernel
theorem dX10_evils_110 : decode cX10_evils 110 = .ok (.goto 5, 3) := by decide +kernel
theorem dX10_evils_113 : decode cX10_evils 113 = .ok (.iload 6, 2) := by decide +kernel
theorem dX10_evils_115 : decode cX10_evils 115 = .ok (.ireturn, 1) := by decide +kernel
set_option maxHeartbeats 4000000 in
set_option maxRecDepth 100000 in
theorem c_X10_evils (d : Nat) (TX : gTX) (P B s : gS) (hR0 : RC TX P B s) (t w q : Int32) : gMt SC yX10_evils cX10_evils 8 (some .int) (d + 10) (fun ad => [.ref (ad 0), .int t, .int w, .int q]) s (gQi SC (fun r s' => RC TX P B s' ∧ r = s_evils TX P B t w q)) := by
  obtain ⟨nT, n, l, hR⟩ := hR0
  have hI := hR.1
  have hn6 : n ≤ 6 := hI.2.2.1.2.1
  have hl6 : l < 6 := cI_l6 hI
  have hxn : x_n P = n := x_nOf hI.2.2.1.1 hn6
  have hbI := hR.2.2
  refine gMt_of SC_ok (by decide +kernel) (fun ad => [some (.ref (ad 0)), some (.int t), some (.int w), some (.int q), none, none, none, none]) (fun _ => rfl) (fun _ => rfl) (fun _ => Nat.le_of_ble_eq_true rfl) (fun E C0 => ?_)
  have C : gCx SC E RX10 cX10_evils 8 (some .int) (d + 10) := C0
  have fm : cI TX nT n l 45 P s := hI
  have fq : Fr mQ s s := Fr.rf
  refine G_aload_n (i := 0) C 1 dX10_evils_0 rfl rfl rfl ?_
  refine G_iload_n (i := 1) C 2 dX10_evils_1 rfl rfl rfl ?_
  refine G_calli 5 (G_runV C Kc_X10_refusalToJudge KV_X10_212 (by omega) (by decide) (eC _ _ _) rfl (c_X10_refusalToJudge 0 TX P B s (RC_q hR fq) t) rfl rfl rfl (Nat.le_of_ble_eq_true rfl) rfl dX10_evils_2) rfl (fun x2 s2 h2 => ?_)
  obtain ⟨es2, h2⟩ := h2
  have es2 := es2.symm
  subst es2
  refine G_istore (L' := [some (.ref (e_ad E 0)), some (.int t), some (.int w), some (.int q), some (.int x2), none, none, none]) C 7 dX10_evils_5 rfl (Nat.le_of_ble_eq_true rfl) rfl rfl ?_
  refine G_iload C 9 dX10_evils_7 rfl rfl ?_
  refine G_if_eq C 15 12 dX10_evils_9 rfl rfl (fun c9 => ?_) (fun c9 => ?_)
  ·
    have k9 := h2.symm.trans c9
    obtain ⟨ut, hut, eut, cut, z, hz20, ez⟩ := s_refI hbI.2.2.2.2.1 k9
    refine G_iload_n (i := 2) C 16 dX10_evils_15 rfl rfl rfl ?_
    refine G_iconst (v := 0) C 17 dX10_evils_16 rfl rfl ?_
    refine G_bipush (v := 9) C 19 dX10_evils_17 rfl rfl ?_
    refine G_calli 22 (G_runS C Kc_X10_within KS_X10_112 (by omega) (c_X10_within 0 w 0 9 s) rfl rfl (Nat.le_of_ble_eq_true rfl) rfl dX10_evils_19) rfl (fun x19 s19 h19 => ?_)
    obtain ⟨es19, h19⟩ := h19
    have es19 := es19.symm
    subst es19
    refine G_if_ne C 28 25 dX10_evils_22 rfl rfl (fun c22 => ?_) (fun c22 => ?_)
    ·
      have k22 := g_neT h19 c22
      obtain ⟨uw, huw, euw⟩ := x_inR (b := 9) k22 rfl (by decide)
      have cuw : w.toNatClampNeg = uw := by rw [euw, nI_clamp (by omega)]
      refine G_iload_n (i := 3) C 29 dX10_evils_28 rfl rfl rfl ?_
      refine G_iconst (v := 0) C 30 dX10_evils_29 rfl rfl ?_
      refine G_iconst (v := 1) C 31 dX10_evils_30 rfl rfl ?_
      refine G_calli 34 (G_runS C Kc_X10_within KS_X10_112 (by omega) (c_X10_within 0 q 0 1 s) rfl rfl (Nat.le_of_ble_eq_true rfl) rfl dX10_evils_31) rfl (fun x31 s31 h31 => ?_)
      obtain ⟨es31, h31⟩ := h31
      have es31 := es31.symm
      subst es31
      refine G_if_ne C 40 37 dX10_evils_34 rfl rfl (fun c34 => ?_) (fun c34 => ?_)
      ·
        have k34 := g_neT h31 c34
        refine G_iconst (v := 0) C 41 dX10_evils_40 rfl rfl ?_
        refine G_istore (L' := [some (.ref (e_ad E 0)), some (.int t), some (.int w), some (.int q), some (.int x2), some (.int 0), none, none]) C 43 dX10_evils_41 rfl (Nat.le_of_ble_eq_true rfl) rfl rfl ?_
        refine G_iconst (v := (-1)) C 44 dX10_evils_43 rfl rfl ?_
        refine G_istore (L' := [some (.ref (e_ad E 0)), some (.int t), some (.int w), some (.int q), some (.int x2), some (.int 0), some (.int (-1)), none]) C 46 dX10_evils_44 rfl (Nat.le_of_ble_eq_true rfl) rfl rfl ?_
        refine G_bipush (v := 99) C 48 dX10_evils_46 rfl rfl ?_
        refine G_istore (L' := [some (.ref (e_ad E 0)), some (.int t), some (.int w), some (.int q), some (.int x2), some (.int 0), some (.int (-1)), some (.int 99)]) C 50 dX10_evils_48 rfl (Nat.le_of_ble_eq_true rfl) rfl rfl ?_
        have L50 : ∀ (f50 : Nat) (k : Nat) (ma le y : Int32) (sl50 : gS) (hk : k ≤ 100) (hy : y = nI 99 - nI k) (hma : ma = x_evm TX B ut (fun v => g_up P 1 uw (nI v)) k (100 - k)) (hle : le = x_evl TX B ut (fun v => g_up P 1 uw (nI v)) k (100 - k)) (fml50 : cI TX nT n l 45 P sl50) (fql50 : Fr mQ s sl50), 100 < k + f50 → GW SC E (gFin SC E (gQi SC (fun r s' => RC TX P B s' ∧ r = s_evils TX P B t w q))) 50 [some (.ref (e_ad E 0)), some (.int t), some (.int w), some (.int q), some (.int x2), some (.int ma), some (.int le), some (.int y)] [] sl50 := by
          intro f50
          induction f50 with
          | zero =>
            intro k ma le y sl50 hk hy hma hle fml50 fql50 hf50
            exact absurd hf50 (by omega)
          | succ f50 ih50 =>
            intro k ma le y sl50 hk hy hma hle fml50 fql50 hf50
            refine G_iload C 52 dX10_evils_50 rfl rfl ?_
            refine G_if_lt C 104 55 dX10_evils_52 rfl rfl (fun c52 => ?_) (fun c52 => ?_)
            ·
              refine G_iload_n (i := 3) C 105 dX10_evils_104 rfl rfl rfl ?_
              refine G_if_ne C 113 108 dX10_evils_105 rfl rfl (fun c105 => ?_) (fun c105 => ?_)
              ·
                refine G_iload C 115 dX10_evils_113 rfl rfl ?_
                exact G_iret C dX10_evils_115 (⟨RC_q hR fql50, by
                    have e : k = 100 := (g_dn99 hk hy).1.mp c52
                    subst e
                    unfold s_evils; rw [if_pos k9, if_neg k22, if_neg k34, cut, cuw, if_neg c105]; exact hle⟩)
              ·
                refine G_iload C 110 dX10_evils_108 rfl rfl ?_
                refine G_goto C 115 dX10_evils_110 rfl ?_
                exact G_iret C dX10_evils_115 (⟨RC_q hR fql50, by
                    have e : k = 100 := (g_dn99 hk hy).1.mp c52
                    subst e
                    unfold s_evils; rw [if_pos k9, if_neg k22, if_neg k34, cut, cuw, if_pos c105]; exact hma⟩)
            ·
              have hk99 : k < 100 := by
                rcases Nat.lt_or_ge k 100 with r | r
                · exact r
                · exact absurd ((g_dn99 hk hy).1.mpr (by omega)) c52
              have ey : y = nI (99 - k) := (g_dn99 hk hy).2 hk99
              refine G_aload_n (i := 0) C 56 dX10_evils_55 rfl rfl rfl ?_
              refine X10_61g C 59 dX10_evils_56 rfl ?_
              refine G_aload_n (i := 0) C 60 dX10_evils_59 rfl rfl rfl ?_
              refine X10_57g C 63 dX10_evils_60 rfl ?_
              refine G_callv 66 (G_runV C Kc_X9_become KV_X10_174 (by omega) (lW0 (Or.inr (Or.inl rfl))) (eW _ _ _ (Or.inr (Or.inl rfl))) rfl (c_X9_become 0 54 45 (Or.inr (Or.inl rfl)) (Or.inl rfl) (by decide) sl50) rfl rfl rfl (Nat.le_of_ble_eq_true rfl) rfl dX10_evils_63) rfl (fun s63 h63 => ?_)
              have fm_1 : cI TX nT n l 45 P s63 := cI_q fml50 (h63.1.UQ)
              have fq_1 : Fr mQ s s63 := Fr.tr fql50 (h63.1.UQ)
              have i_1 : cI TX nT n l 54 P s63 := cI_bec fm_1 h63.1 h63.2
              refine G_aload_n (i := 0) C 67 dX10_evils_66 rfl rfl rfl ?_
              refine X10_61g C 70 dX10_evils_67 rfl ?_
              refine X10_125g C (Or.inr (Or.inl rfl)) 73 dX10_evils_70 rfl ?_
              refine G_iload_n (i := 2) C 74 dX10_evils_73 rfl rfl rfl ?_
              refine G_iload C 76 dX10_evils_74 rfl rfl ?_
              refine G_iast (n := 10) C 77 (lW (Or.inr (Or.inl rfl)) (by decide)) (fun σ => eWe _ _ σ (Or.inr (Or.inl rfl))) (uw) euw (by omega) (by decide) (Nat.le_of_eq (nW1 (Or.inr (Or.inl rfl))).symm) dX10_evils_76 rfl (fun s76 es76 => ?_)
              have fm_2 : cI TX nT n l 45 P s76 := cI_q fm_1 (Fr.up es76 (mQ_w (by decide)))
              have fq_2 : Fr mQ s s76 := Fr.tr fq_1 (Fr.up es76 (mQ_w (by decide)))
              have i_2 : cI TX nT n l 54 (g_up P 1 uw (nI (99 - k))) s76 := by have z := cI_up1 i_1 es76; rw [ey] at z; exact z
              refine G_aload_n (i := 0) C 78 dX10_evils_77 rfl rfl rfl ?_
              refine G_aload_n (i := 0) C 79 dX10_evils_78 rfl rfl rfl ?_
              refine X10_17g C 82 dX10_evils_79 rfl ?_
              refine G_iload_n (i := 1) C 83 dX10_evils_82 rfl rfl rfl ?_
              refine G_aald (r := (30 + 2 * ut)) C 84 (by decide) (eC2 _ _ _) (fun _ => rfl) (ut) eut (by omega) (by decide) rfl dX10_evils_83 rfl ?_
              refine G_calli 87 (G_runV C Kc_X10_otherwise KV_X10_215 (by omega) (by decide) (eC _ _ _) rfl (c_X10_otherwise 0 TX nT n l (g_up P 1 uw (nI (99 - k))) s76 i_2 ut (by omega) z hz20 (B (4 + ut)) ((cB_sz (Rc_q hR fq_2).2.1 hut).trans ez) (fun j hj => cB_nu (Rc_q hR fq_2).2.1 hut hj)) rfl rfl rfl (Nat.le_of_ble_eq_true rfl) rfl dX10_evils_84) rfl (fun x84 s84 h84 => ?_)
              have fm_3 : cI TX nT n l 45 P s84 := cI_q fm_2 (h84.1.Q)
              have fq_3 : Fr mQ s s84 := Fr.tr fq_2 (h84.1.Q)
              have hun : x84 = x_un TX B ut (g_up P 1 uw (nI (99 - k))) := by unfold x_un; rw [ez, nI_clamp (by omega)]; exact h84.2
              refine G_iconst (v := (-1)) C 88 dX10_evils_87 rfl rfl ?_
              refine G_icmp_ne C 98 91 dX10_evils_88 rfl rfl (fun c88 => ?_) (fun c88 => ?_)
              ·
                refine G_iinc (w := (-1)) C 101 dX10_evils_98 rfl rfl rfl rfl (fun x98 ex98 => ?_)
                show GW SC E _ 101 [some (.ref (e_ad E 0)), some (.int t), some (.int w), some (.int q), some (.int x2), some (.int ma), some (.int le), some (.int x98)] [] s84
                refine G_goto C 50 dX10_evils_101 rfl ?_
                exact ih50 (k + 1) ma le x98 s84 (by omega) (g_cd hy ex98) (by rw [show 100 - (k + 1) = 99 - k by omega, x_evm, if_neg (by rw [← hun]; exact c88), show 99 - k + 1 = 100 - k by omega]; exact hma) (by rw [show 100 - (k + 1) = 99 - k by omega, x_evl, if_neg (by rw [← hun]; exact c88), show 99 - k + 1 = 100 - k by omega]; exact hle) fm_3 fq_3 (by omega)
              ·
                refine G_iinc (w := 1) C 94 dX10_evils_91 rfl rfl rfl rfl (fun x91 ex91 => ?_)
                show GW SC E _ 94 [some (.ref (e_ad E 0)), some (.int t), some (.int w), some (.int q), some (.int x2), some (.int x91), some (.int le), some (.int y)] [] s84
                refine G_iload C 96 dX10_evils_94 rfl rfl ?_
                refine G_istore (L' := [some (.ref (e_ad E 0)), some (.int t), some (.int w), some (.int q), some (.int x2), some (.int x91), some (.int y), some (.int y)]) C 98 dX10_evils_96 rfl (Nat.le_of_ble_eq_true rfl) rfl rfl ?_
                refine G_iinc (w := (-1)) C 101 dX10_evils_98 rfl rfl rfl rfl (fun x98 ex98 => ?_)
                show GW SC E _ 101 [some (.ref (e_ad E 0)), some (.int t), some (.int w), some (.int q), some (.int x2), some (.int x91), some (.int y), some (.int x98)] [] s84
                refine G_goto C 50 dX10_evils_101 rfl ?_
                exact ih50 (k + 1) x91 y x98 s84 (by omega) (g_cd hy ex98) (by rw [show 100 - (k + 1) = 99 - k by omega, x_evm, if_pos (hun.symm.trans c88), show 99 - k + 1 = 100 - k by omega, ← hma]; exact ex91) (by rw [show 100 - (k + 1) = 99 - k by omega, x_evl, if_pos (hun.symm.trans c88)]; exact ey) fm_3 fq_3 (by omega)
        exact L50 (100 + 1) 0 0 (-1) 99 s (by omega) (by decide) (rfl) (rfl) fm fq (by omega)
      ·
        have k34 := h31.symm.trans c34
        refine G_bipush (v := (-7)) C 39 dX10_evils_37 rfl rfl ?_
        exact G_iret C dX10_evils_39 (⟨RC_q hR fq, by unfold s_evils; rw [if_pos k9, if_neg k22, if_pos k34]⟩)
    ·
      have k22 := h19.symm.trans c22
      refine G_bipush (v := (-5)) C 27 dX10_evils_25 rfl rfl ?_
      exact G_iret C dX10_evils_27 (⟨RC_q hR fq, by unfold s_evils; rw [if_pos k9, if_pos k22]⟩)
  ·
    have k9 := g_neT h2 c9
    refine G_iload C 14 dX10_evils_12 rfl rfl ?_
    exact G_iret C dX10_evils_14 (⟨RC_q hR fq, by unfold s_evils; rw [if_neg k9]; exact h2⟩)
theorem dX10_laws_0 : decode cX10_laws 0 = .ok (.aload_n 0, 1) := by decide +kernel
theorem dX10_laws_1 : decode cX10_laws 1 = .ok (.iload_n 1, 1) := by decide +kernel
theorem dX10_laws_2 : decode cX10_laws 2 = .ok (.invokevirtual 212, 3) := by decide +kernel
theorem dX10_laws_5 : decode cX10_laws 5 = .ok (.istore_n 2, 1) := by decide +kernel
theorem dX10_laws_6 : decode cX10_laws 6 = .ok (.iload_n 2, 1) := by decide +kernel
theorem dX10_laws_7 : decode cX10_laws 7 = .ok (.ifCond .eq 5, 3) := by decide +kernel
theorem dX10_laws_10 : decode cX10_laws 10 = .ok (.iload_n 2, 1) := by decide +kernel
theorem dX10_laws_11 : decode cX10_laws 11 = .ok (.ireturn, 1) := by decide +kernel
theorem dX10_laws_12 : decode cX10_laws 12 = .ok (.iconst 0, 1) := by decide +kernel
theorem dX10_laws_13 : decode cX10_laws 13 = .ok (.istore_n 3, 1) := by decide +kernel
theorem dX10_laws_14 : decode cX10_laws 14 = .ok (.iconst 0, 1) := by decide +kernel
theorem dX10_laws_15 : decode cX10_laws 15 = .ok (.istore 4, 2) := by decide +kernel
theorem dX10_laws_17 : decode cX10_laws 17 = .ok (.iload 4, 2) := by decide +kernel
theorem dX10_laws_19 : decode cX10_laws 19 = .ok (.aload_n 0, 1) := by decide +kernel
theorem dX10_laws_20 : decode cX10_laws 20 = .ok (.getfield 91, 3) := by decide +kernel
theorem dX10_laws_23 : decode cX10_laws 23 = .ok (.if_icmp .ge 54, 3) := by decide +kernel
theorem dX10_laws_26 : decode cX10_laws 26 = .ok (.aload_n 0, 1) := by decide +kernel
theorem dX10_laws_27 : decode cX10_laws 27 = .ok (.getfield 61, 3) := by decide +kernel
theorem dX10_laws_30 : decode cX10_laws 30 = .ok (.aload_n 0, 1) := by decide +kernel
theorem dX10_laws_31 : decode cX10_laws 31 = .ok (.getfield 57, 3) := by decide +kernel
theorem dX10_laws_34 : decode cX10_laws 34 = .ok (.invokevirtual 174, 3) := by decide +kernel
theorem dX10_laws_37 : decode cX10_laws 37 = .ok (.aload_n 0, 1) := by decide +kernel
theorem dX10_laws_38 : decode cX10_laws 38 = .ok (.getfield 61, 3) := by decide +kernel
theorem dX10_laws_41 : decode cX10_laws 41 = .ok (.iload 4, 2) := by decide +kernel
theorem dX10_laws_43 : decode cX10_laws 43 = .ok (.putfield 109, 3) := by decide +kernel
theorem dX10_laws_46 : decode cX10_laws 46 = .ok (.iload_n 3, 1) := by decide +kernel
theorem dX10_laws_47 : decode cX10_laws 47 = .ok (.aload_n 0, 1) := by decide +kernel
theorem dX10_laws_48 : decode cX10_laws 48 = .ok (.aload_n 0, 1) := by decide +kernel
theorem dX10_laws_49 : decode cX10_laws 49 = .ok (.getfield 17, 3) := by decide +kernel
theorem dX10_laws_52 : decode cX10_laws 52 = .ok (.iload_n 1, 1) := by decide +kernel
theorem dX10_laws_53 : decode cX10_laws 53 = .ok (.aaload, 1) := by decide +kernel
theorem dX10_laws_54 : decode cX10_laws 54 = .ok (.invokevirtual 215, 3) := by decide +kernel
theorem dX10_laws_57 : decode cX10_laws 57 = .ok (.iconst (-1), 1) := by decide +kernel
theorem dX10_laws_58 : decode cX10_laws 58 = .ok (.if_icmp .ne 10, 3) := by decide +kernel
theorem dX10_laws_61 : decode cX10_laws 61 = .ok (.iconst 1, 1) := by decide +kernel
theorem dX10_laws_62 : decode cX10_laws 62 = .ok (.iload 4, 2) := by decide +kernel
theorem dX10_laws_64 : decode cX10_laws 64 = .ok (.ishl, 1) := by decide +kernel
theorem dX10_laws_65 : decode cX10_laws 65 = .ok (.goto 4, 3) := by decide +kernel
theorem dX10_laws_68 : decode cX10_laws 68 = .ok (.iconst 0, 1) := by decide +kernel
theorem dX10_laws_69 : decode cX10_laws 69 = .ok (.ior, 1) := by decide +kernel
theorem dX10_laws_70 : decode cX10_laws 70 = .ok (.istore_n 3, 1) := by decide +kernel
theorem dX10_laws_71 : decode cX10_laws 71 = .ok (.iinc 4 1, 3) := by decide +kernel
theorem dX10_laws_74 : decode cX10_laws 74 = .ok (.goto (-57), 3) := by decide +kernel
theorem dX10_laws_77 : decode cX10_laws 77 = .ok (.iload_n 3, 1) := by decide +kernel
theorem dX10_laws_78 : decode cX10_laws 78 = .ok (.ireturn, 1) := by decide +kernel
set_option maxHeartbeats 4000000 in
set_option maxRecDepth 100000 in
theorem c_X10_laws (d : Nat) (TX : gTX) (P B s : gS) (hR0 : RC TX P B s) (t : Int32) : gMt SC yX10_laws cX10_laws 5 (some .int) (d + 10) (fun ad => [.ref (ad 0), .int t]) s (gQi SC (fun r s' => RC TX P B s' ∧ r = s_laws TX P B t)) := by
  obtain ⟨nT, n, l, hR⟩ := hR0
  have hI := hR.1
  have hn6 : n ≤ 6 := hI.2.2.1.2.1
  have hl6 : l < 6 := cI_l6 hI
  have hxn : x_n P = n := x_nOf hI.2.2.1.1 hn6
  have hbI := hR.2.2
  have hnT6 : nT ≤ 6 := hI.2.2.1.2.2.2.2.1
  refine gMt_of SC_ok (by decide +kernel) (fun ad => [some (.ref (ad 0)), some (.int t), none, none, none]) (fun _ => rfl) (fun _ => rfl) (fun _ => Nat.le_of_ble_eq_true rfl) (fun E C0 => ?_)
  have C : gCx SC E RX10 cX10_laws 5 (some .int) (d + 10) := C0
  have fm : cI TX nT n l 45 P s := hI
  have fq : Fr mQ s s := Fr.rf
  refine G_aload_n (i := 0) C 1 dX10_laws_0 rfl rfl rfl ?_
  refine G_iload_n (i := 1) C 2 dX10_laws_1 rfl rfl rfl ?_
  refine G_calli 5 (G_runV C Kc_X10_refusalToJudge KV_X10_212 (by omega) (by decide) (eC _ _ _) rfl (c_X10_refusalToJudge 0 TX P B s (RC_q hR fq) t) rfl rfl rfl (Nat.le_of_ble_eq_true rfl) rfl dX10_laws_2) rfl (fun x2 s2 h2 => ?_)
  obtain ⟨es2, h2⟩ := h2
  have es2 := es2.symm
  subst es2
  refine G_istore_n (i := 2) (L' := [some (.ref (e_ad E 0)), some (.int t), some (.int x2), none, none]) C 6 dX10_laws_5 rfl rfl (Nat.le_of_ble_eq_true rfl) rfl rfl ?_
  refine G_iload_n (i := 2) C 7 dX10_laws_6 rfl rfl rfl ?_
  refine G_if_eq C 12 10 dX10_laws_7 rfl rfl (fun c7 => ?_) (fun c7 => ?_)
  ·
    have k7 := h2.symm.trans c7
    obtain ⟨ut, hut, eut, cut, z, hz20, ez⟩ := s_refI hbI.2.2.2.2.1 k7
    refine G_iconst (v := 0) C 13 dX10_laws_12 rfl rfl ?_
    refine G_istore_n (i := 3) (L' := [some (.ref (e_ad E 0)), some (.int t), some (.int x2), some (.int 0), none]) C 14 dX10_laws_13 rfl rfl (Nat.le_of_ble_eq_true rfl) rfl rfl ?_
    refine G_iconst (v := 0) C 15 dX10_laws_14 rfl rfl ?_
    refine G_istore (L' := [some (.ref (e_ad E 0)), some (.int t), some (.int x2), some (.int 0), some (.int 0)]) C 17 dX10_laws_15 rfl (Nat.le_of_ble_eq_true rfl) rfl rfl ?_
    have L17 : ∀ (f17 : Nat) (k : Nat) (fi y : Int32) (sl17 : gS) (Ey : y = nI k) (hk : k ≤ nT) (hfi : fi = x_fit TX B ut (fun v => g_up P 0 3 (nI v)) k) (fml17 : cI TX nT n l 45 P sl17) (fql17 : Fr mQ s sl17), nT < k + f17 → GW SC E (gFin SC E (gQi SC (fun r s' => RC TX P B s' ∧ r = s_laws TX P B t))) 17 [some (.ref (e_ad E 0)), some (.int t), some (.int x2), some (.int fi), some (.int y)] [] sl17 := by
      intro f17
      induction f17 with
      | zero =>
        intro k fi y sl17 Ey hk hfi fml17 fql17 hf17
        exact absurd hf17 (by omega)
      | succ f17 ih17 =>
        intro k fi y sl17 Ey hk hfi fml17 fql17 hf17
        refine G_iload C 19 dX10_laws_17 rfl rfl ?_
        refine G_aload_n (i := 0) C 20 dX10_laws_19 rfl rfl rfl ?_
        refine X10_91g C 23 dX10_laws_20 rfl (fun x20 ex20 => ?_)
        have Sx20 : x20 = nI nT := ex20.trans ((congrFun (congrFun (Rc_q hR fql17).2.1 0) 0).trans hbI.1)
        refine G_icmp_ge C 77 26 dX10_laws_23 rfl rfl (fun c23 => ?_) (fun c23 => ?_)
        ·
          have n23 : ¬ k < nT := fun h => c23 ((g_ltN (a := k) (b := nT) (hx := Ey) (hy := Sx20) (by omega) (by omega)).mpr h)
          refine G_iload_n (i := 3) C 78 dX10_laws_77 rfl rfl rfl ?_
          exact G_iret C dX10_laws_78 (⟨RC_q hR fql17, by unfold s_laws; rw [if_pos k7, cut, hbI.1, nI_clamp (by omega), hfi, show k = nT by omega]⟩)
        ·
          have n23 : k < nT := (g_ltN (a := k) (b := nT) (hx := Ey) (hy := Sx20) (by omega) (by omega)).mp c23
          refine G_aload_n (i := 0) C 27 dX10_laws_26 rfl rfl rfl ?_
          refine X10_61g C 30 dX10_laws_27 rfl ?_
          refine G_aload_n (i := 0) C 31 dX10_laws_30 rfl rfl rfl ?_
          refine X10_57g C 34 dX10_laws_31 rfl ?_
          refine G_callv 37 (G_runV C Kc_X9_become KV_X10_174 (by omega) (lW0 (Or.inr (Or.inl rfl))) (eW _ _ _ (Or.inr (Or.inl rfl))) rfl (c_X9_become 0 54 45 (Or.inr (Or.inl rfl)) (Or.inl rfl) (by decide) sl17) rfl rfl rfl (Nat.le_of_ble_eq_true rfl) rfl dX10_laws_34) rfl (fun s34 h34 => ?_)
          have fm_1 : cI TX nT n l 45 P s34 := cI_q fml17 (h34.1.UQ)
          have fq_1 : Fr mQ s s34 := Fr.tr fql17 (h34.1.UQ)
          have i_1 : cI TX nT n l 54 P s34 := cI_bec fm_1 h34.1 h34.2
          refine G_aload_n (i := 0) C 38 dX10_laws_37 rfl rfl rfl ?_
          refine X10_61g C 41 dX10_laws_38 rfl ?_
          refine G_iload C 43 dX10_laws_41 rfl rfl ?_
          refine X10_109p C (Or.inr (Or.inl rfl)) 46 dX10_laws_43 rfl (fun s43 es43 => ?_)
          have fm_2 : cI TX nT n l 45 P s43 := cI_q fm_1 (Fr.up es43 (mQ_w (i := 0) (by decide)))
          have fq_2 : Fr mQ s s43 := Fr.tr fq_1 (Fr.up es43 (mQ_w (i := 0) (by decide)))
          have i_2 : cI TX nT n k 54 (g_up P 0 3 (nI k)) s43 := by have z := cI_lawU i_1 es43 Ey (by omega); rw [Ey] at z; exact z
          refine G_iload_n (i := 3) C 47 dX10_laws_46 rfl rfl rfl ?_
          refine G_aload_n (i := 0) C 48 dX10_laws_47 rfl rfl rfl ?_
          refine G_aload_n (i := 0) C 49 dX10_laws_48 rfl rfl rfl ?_
          refine X10_17g C 52 dX10_laws_49 rfl ?_
          refine G_iload_n (i := 1) C 53 dX10_laws_52 rfl rfl rfl ?_
          refine G_aald (r := (30 + 2 * ut)) C 54 (by decide) (eC2 _ _ _) (fun _ => rfl) (ut) eut (by omega) (by decide) rfl dX10_laws_53 rfl ?_
          refine G_calli 57 (G_runV C Kc_X10_otherwise KV_X10_215 (by omega) (by decide) (eC _ _ _) rfl (c_X10_otherwise 0 TX nT n k (g_up P 0 3 (nI k)) s43 i_2 ut (by omega) z hz20 (B (4 + ut)) ((cB_sz (Rc_q hR fq_2).2.1 hut).trans ez) (fun j hj => cB_nu (Rc_q hR fq_2).2.1 hut hj)) rfl rfl rfl (Nat.le_of_ble_eq_true rfl) rfl dX10_laws_54) rfl (fun x54 s54 h54 => ?_)
          have fm_3 : cI TX nT n l 45 P s54 := cI_q fm_2 (h54.1.Q)
          have fq_3 : Fr mQ s s54 := Fr.tr fq_2 (h54.1.Q)
          have hun : x54 = x_un TX B ut (g_up P 0 3 (nI k)) := by unfold x_un; rw [ez, nI_clamp (by omega)]; exact h54.2
          refine G_iconst (v := (-1)) C 58 dX10_laws_57 rfl rfl ?_
          refine G_icmp_ne C 68 61 dX10_laws_58 rfl rfl (fun c58 => ?_) (fun c58 => ?_)
          ·
            refine G_iconst (v := 0) C 69 dX10_laws_68 rfl rfl ?_
            refine G_ior C 70 dX10_laws_69 rfl (fun x69 ex69 => ?_)
            refine G_istore_n (i := 3) (L' := [some (.ref (e_ad E 0)), some (.int t), some (.int x2), some (.int x69), some (.int y)]) C 71 dX10_laws_70 rfl rfl (Nat.le_of_ble_eq_true rfl) rfl rfl ?_
            refine G_iinc (w := 1) C 74 dX10_laws_71 rfl rfl rfl rfl (fun x71 ex71 => ?_)
            have Nx71 : x71 = nI (k + 1) := g_addN ex71 Ey rfl
            show GW SC E _ 74 [some (.ref (e_ad E 0)), some (.int t), some (.int x2), some (.int x69), some (.int x71)] [] s54
            refine G_goto C 17 dX10_laws_74 rfl ?_
            exact ih17 (k + 1) x69 x71 s54 (g_cn (a := (k + 1)) Nx71 (by first | rfl | omega | (simp only [List.length_cons, List.length_drop]; done) | (simp only [List.length_cons, List.length_drop]; omega))) (by omega) (by rw [x_fit, if_neg (by rw [← hun]; exact c58), ex69, y_or0, hfi]) fm_3 fq_3 (by omega)
          ·
            refine G_iconst (v := 1) C 62 dX10_laws_61 rfl rfl ?_
            refine G_iload C 64 dX10_laws_62 rfl rfl ?_
            refine G_ishl C 65 dX10_laws_64 rfl (fun x64 ex64 => ?_)
            refine G_goto C 69 dX10_laws_65 rfl ?_
            refine G_ior C 70 dX10_laws_69 rfl (fun x69 ex69 => ?_)
            refine G_istore_n (i := 3) (L' := [some (.ref (e_ad E 0)), some (.int t), some (.int x2), some (.int x69), some (.int y)]) C 71 dX10_laws_70 rfl rfl (Nat.le_of_ble_eq_true rfl) rfl rfl ?_
            refine G_iinc (w := 1) C 74 dX10_laws_71 rfl rfl rfl rfl (fun x71 ex71 => ?_)
            have Nx71 : x71 = nI (k + 1) := g_addN ex71 Ey rfl
            show GW SC E _ 74 [some (.ref (e_ad E 0)), some (.int t), some (.int x2), some (.int x69), some (.int x71)] [] s54
            refine G_goto C 17 dX10_laws_74 rfl ?_
            exact ih17 (k + 1) x69 x71 s54 (g_cn (a := (k + 1)) Nx71 (by first | rfl | omega | (simp only [List.length_cons, List.length_drop]; done) | (simp only [List.length_cons, List.length_drop]; omega))) (by omega) (by rw [x_fit, if_pos (hun.symm.trans c58), ex69, ex64, Ey, hfi]) fm_3 fq_3 (by omega)
    exact L17 (nT + 1) 0 0 0 s (g_cn (a := 0) rfl (by first | rfl | omega)) (by omega) (rfl) fm fq (by omega)
  ·
    have k7 := g_neT h2 c7
    refine G_iload_n (i := 2) C 11 dX10_laws_10 rfl rfl rfl ?_
    exact G_iret C dX10_laws_11 (⟨RC_q hR fq, by unfold s_laws; rw [if_neg k7]; exact h2⟩)
theorem x_lt_r (m : Nat) (hm : m < 2147483647) : ∀ k, x_lt m k < 2147483647 := by
  intro k
  cases k with
  | zero => exact hm
  | succ k => exact Nat.mod_lt _ (by decide)
theorem x_tw_in {n a b : Nat} {P : gS} (h : a % 6 < n) : x_tw P n a b = g_up P 3 (a % 6) (P 3 (a % 6) ^^^ ((1 : Int32) <<< (nI (b % 10) &&& 31))) := if_pos h
theorem x_tw_out {n a b : Nat} {P : gS} (h : ¬ a % 6 < n) : x_tw P n a b = P := if_neg h
theorem x_one_iff {j n : Nat} (hj : j < 1000) (hn : n ≤ 1000) : x_one (nI j) n = 0 ↔ ¬ j < n := by
  unfold x_one
  rw [if_neg (nI_pos (by omega))]
  by_cases h : j < n
  · rw [if_pos ((nI_ltI (by omega) (by omega)).mpr h)]
    simp [h]
  · rw [if_neg (fun q => h ((nI_ltI (by omega) (by omega)).mp q))]
    simp [h]
theorem dX10_lotBehind_0 : decode cX10_lotBehind 0 = .ok (.lload_n 0, 1) := by decide +kernel
theorem dX10_lotBehind_1 : decode cX10_lotBehind 1 = .ok (.ldc2_w 276, 3) := by decide +kernel
theorem dX10_lotBehind_4 : decode cX10_lotBehind 4 = .ok (.lmul, 1) := by decide +kernel
theorem dX10_lotBehind_5 : decode cX10_lotBehind 5 = .ok (.ldc2_w 278, 3) := by decide +kernel
theorem dX10_lotBehind_8 : decode cX10_lotBehind 8 = .ok (.lrem, 1) := by decide +kernel
theorem dX10_lotBehind_9 : decode cX10_lotBehind 9 = .ok (.lreturn, 1) := by decide +kernel
set_option maxHeartbeats 4000000 in
set_option maxRecDepth 100000 in
theorem c_X10_lotBehind (d m : Nat) (hm : m < 2147483647) (a : Int64) (ha : a = lN m) (s : gS) : gMt SC yX10_lotBehind cX10_lotBehind 2 (some .long) (d + 1) (fun ad => [.long a]) s (gQl SC (fun r s' => s' = s ∧ r = lN (m * 48271 % 2147483647))) := by
  refine gMt_of SC_ok (by decide +kernel) (fun ad => [some (.long a), none]) (fun _ => rfl) (fun _ => rfl) (fun _ => Nat.le_of_ble_eq_true rfl) (fun E C0 => ?_)
  have C : gCx SC E RX10 cX10_lotBehind 2 (some .long) (d + 1) := C0
  refine G_lload_n (i := 0) C 1 dX10_lotBehind_0 rfl rfl rfl ?_
  refine G_ldc2 (v := 48271) C 4 w_752 dX10_lotBehind_1 rfl ?_
  refine G_lmul C 5 dX10_lotBehind_4 rfl (fun x4 ex4 => ?_)
  refine G_ldc2 (v := 2147483647) C 8 w_753 dX10_lotBehind_5 rfl ?_
  refine G_lrem C 9 dX10_lotBehind_8 rfl (by decide) (fun x8 ex8 => ?_)
  exact G_lret C dX10_lotBehind_9 (⟨rfl, l_remN ex8 (l_mulN ex4 ha fa_litL_48271) fa_litL_2147483647 (by omega) (by decide) (by decide)⟩)
theorem dX10_criedByLots_0 : decode cX10_criedByLots 0 = .ok (.aload_n 0, 1) := by decide +kernel
theorem dX10_criedByLots_1 : decode cX10_criedByLots 1 = .ok (.getfield 61, 3) := by decide +kernel
theorem dX10_criedByLots_4 : decode cX10_criedByLots 4 = .ok (.aload_n 0, 1) := by decide +kernel
theorem dX10_criedByLots_5 : decode cX10_criedByLots 5 = .ok (.getfield 57, 3) := by decide +kernel
theorem dX10_criedByLots_8 : decode cX10_criedByLots 8 = .ok (.invokevirtual 174, 3) := by decide +kernel
theorem dX10_criedByLots_11 : decode cX10_criedByLots 11 = .ok (.iconst 0, 1) := by decide +kernel
theorem dX10_criedByLots_12 : decode cX10_criedByLots 12 = .ok (.istore_n 2, 1) := by decide +kernel
theorem dX10_criedByLots_13 : decode cX10_criedByLots 13 = .ok (.iload_n 1, 1) := by decide +kernel
theorem dX10_criedByLots_14 : decode cX10_criedByLots 14 = .ok (.iconst 1, 1) := by decide +kernel
theorem dX10_criedByLots_15 : decode cX10_criedByLots 15 = .ok (.iadd, 1) := by decide +kernel
theorem dX10_criedByLots_16 : decode cX10_criedByLots 16 = .ok (.i2l, 1) := by decide +kernel
theorem dX10_criedByLots_17 : decode cX10_criedByLots 17 = .ok (.lstore_n 3, 1) := by decide +kernel
theorem dX10_criedByLots_18 : decode cX10_criedByLots 18 = .ok (.iconst 0, 1) := by decide +kernel
theorem dX10_criedByLots_19 : decode cX10_criedByLots 19 = .ok (.istore 5, 2) := by decide +kernel
theorem dX10_criedByLots_21 : decode cX10_criedByLots 21 = .ok (.iload 5, 2) := by decide +kernel
theorem dX10_criedByLots_23 : decode cX10_criedByLots 23 = .ok (.bipush 10, 2) := by decide +kernel
theorem dX10_criedByLots_25 : decode cX10_criedByLots 25 = .ok (.if_icmp .ge 83, 3) := by decide +kernel
theorem dX10_criedByLots_28 : decode cX10_criedByLots 28 = .ok (.lload_n 3, 1) := by decide +kernel
theorem dX10_criedByLots_29 : decode cX10_criedByLots 29 = .ok (.invokestatic 265, 3) := by decide +kernel
theorem dX10_criedByLots_32 : decode cX10_criedByLots 32 = .ok (.lstore_n 3, 1) := by decide +kernel
theorem dX10_criedByLots_33 : decode cX10_criedByLots 33 = .ok (.lload_n 3, 1) := by decide +kernel
theorem dX10_criedByLots_34 : decode cX10_criedByLots 34 = .ok (.ldc2_w 269, 3) := by decide +kernel
theorem dX10_criedByLots_37 : decode cX10_criedByLots 37 = .ok (.lrem, 1) := by decide +kernel
theorem dX10_criedByLots_38 : decode cX10_criedByLots 38 = .ok (.l2i, 1) := by decide +kernel
theorem dX10_criedByLots_39 : decode cX10_criedByLots 39 = .ok (.istore 6, 2) := by decide +kernel
theorem dX10_criedByLots_41 : decode cX10_criedByLots 41 = .ok (.lload_n 3, 1) := by decide +kernel
theorem dX10_criedByLots_42 : decode cX10_criedByLots 42 = .ok (.invokestatic 265, 3) := by decide +kernel
theorem dX10_criedByLots_45 : decode cX10_criedByLots 45 = .ok (.lstore_n 3, 1) := by decide +kernel
theorem dX10_criedByLots_46 : decode cX10_criedByLots 46 = .ok (.lload_n 3, 1) := by decide +kernel
theorem dX10_criedByLots_47 : decode cX10_criedByLots 47 = .ok (.ldc2_w 271, 3) := by decide +kernel
theorem dX10_criedByLots_50 : decode cX10_criedByLots 50 = .ok (.lrem, 1) := by decide +kernel
theorem dX10_criedByLots_51 : decode cX10_criedByLots 51 = .ok (.l2i, 1) := by decide +kernel
theorem dX10_criedByLots_52 : decode cX10_criedByLots 52 = .ok (.istore 7, 2) := by decide +kernel
theorem dX10_criedByLots_54 : decode cX10_criedByLots 54 = .ok (.aload_n 0, 1) := by decide +kernel
theorem dX10_criedByLots_55 : decode cX10_criedByLots 55 = .ok (.getfield 61, 3) := by decide +kernel
theorem dX10_criedByLots_58 : decode cX10_criedByLots 58 = .ok (.iload 6, 2) := by decide +kernel
theorem dX10_criedByLots_60 : decode cX10_criedByLots 60 = .ok (.invokevirtual 139, 3) := by decide +kernel
theorem dX10_criedByLots_63 : decode cX10_criedByLots 63 = .ok (.ifCond .eq 20, 3) := by decide +kernel
theorem dX10_criedByLots_66 : decode cX10_criedByLots 66 = .ok (.aload_n 0, 1) := by decide +kernel
theorem dX10_criedByLots_67 : decode cX10_criedByLots 67 = .ok (.getfield 61, 3) := by decide +kernel
theorem dX10_criedByLots_70 : decode cX10_criedByLots 70 = .ok (.getfield 273, 3) := by decide +kernel
theorem dX10_criedByLots_73 : decode cX10_criedByLots 73 = .ok (.iload 6, 2) := by decide +kernel
theorem dX10_criedByLots_75 : decode cX10_criedByLots 75 = .ok (.dup2, 1) := by decide +kernel
theorem dX10_criedByLots_76 : decode cX10_criedByLots 76 = .ok (.iaload, 1) := by decide +kernel
theorem dX10_criedByLots_77 : decode cX10_criedByLots 77 = .ok (.iconst 1, 1) := by decide +kernel
theorem dX10_criedByLots_78 : decode cX10_criedByLots 78 = .ok (.iload 7, 2) := by decide +kernel
theorem dX10_criedByLots_80 : decode cX10_criedByLots 80 = .ok (.ishl, 1) := by decide +kernel
theorem dX10_criedByLots_81 : decode cX10_criedByLots 81 = .ok (.ixor, 1) := by decide +kernel
theorem dX10_criedByLots_82 : decode cX10_criedByLots 82 = .ok (.iastore, 1) := by decide +kernel
theorem dX10_criedByLots_83 : decode cX10_criedByLots 83 = .ok (.iload_n 2, 1) := by decide +kernel
theorem dX10_criedByLots_84 : decode cX10_criedByLots 84 = .ok (.aload_n 0, 1) := by decide +kernel
theorem dX10_criedByLots_85 : decode cX10_criedByLots 85 = .ok (.getfield 61, 3) := by decide +kernel
theorem dX10_criedByLots_88 : decode cX10_criedByLots 88 = .ok (.invokevirtual 171, 3) := by decide +kernel
theorem dX10_criedByLots_91 : decode cX10_criedByLots 91 = .ok (.iconst (-1), 1) := by decide +kernel
theorem dX10_criedByLots_92 : decode cX10_criedByLots 92 = .ok (.if_icmp .ne 7, 3) := by decide +kernel
theorem dX10_criedByLots_95 : decode cX10_criedByLots 95 = .ok (.iconst 0, 1) := by decide +kernel
theorem dX10_criedByLots_96 : decode cX10_criedByLots 96 = .ok (.goto 4, 3) := by decide +kernel
theorem dX10_criedByLots_99 : decode cX10_criedByLots 99 = .ok (.iconst 1, 1) := by decide +kernel
theorem dX10_criedByLots_100 : decode cX10_criedByLots 100 = .ok (.iadd, 1) := by decide +kernel
theorem dX10_criedByLots_101 : decode cX10_criedByLots 101 = .ok (.istore_n 2, 1) := by decide +kernel
theorem dX10_criedByLots_102 : decode cX10_criedByLots 102 = .ok (.iinc 5 1, 3) := by decide +kernel
theorem dX10_criedByLots_105 : decode cX10_criedByLots 105 = .ok (.goto (-84), 3) := by decide +kernel
theorem dX10_criedByLots_108 : decode cX10_criedByLots 108 = .ok (.iload_n 2, 1) := by decide +kernel
theorem dX10_criedByLots_109 : decode cX10_criedByLots 109 = .ok (.ireturn, 1) := by decide +kernel
set_option maxHeartbeats 4000000 in
set_option maxRecDepth 100000 in
theorem c_X10_criedByLots (d : Nat) (TX : gTX) (nT n l : Nat) (P B s : gS) (hR : Rc TX nT n l P B s) (x : Int32) (sd m : Nat) (hx : x = nI sd) (hsd : sd ≤ 200000) (hm : m = sd + 1) : gMt SC yX10_criedByLots cX10_criedByLots 8 (some .int) (d + 10) (fun ad => [.ref (ad 0), .int x]) s (gQi SC (fun r s' => Fr mQ s s' ∧ cI TX nT n l 54 (x_ltP TX P n m 10) s' ∧ r = x_ltC TX P n m 10)) := by
  have hI := hR.1
  have hn6 : n ≤ 6 := hI.2.2.1.2.1
  have hl6 : l < 6 := cI_l6 hI
  have hbI := hR.2.2
  have hm2 : m < 2147483647 := by omega
  refine gMt_of SC_ok (by decide +kernel) (fun ad => [some (.ref (ad 0)), some (.int x), none, none, none, none, none, none]) (fun _ => rfl) (fun _ => rfl) (fun _ => Nat.le_of_ble_eq_true rfl) (fun E C0 => ?_)
  have C : gCx SC E RX10 cX10_criedByLots 8 (some .int) (d + 10) := C0
  have fm : cI TX nT n l 45 P s := hI
  have fq : Fr mQ s s := Fr.rf
  refine G_aload_n (i := 0) C 1 dX10_criedByLots_0 rfl rfl rfl ?_
  refine X10_61g C 4 dX10_criedByLots_1 rfl ?_
  refine G_aload_n (i := 0) C 5 dX10_criedByLots_4 rfl rfl rfl ?_
  refine X10_57g C 8 dX10_criedByLots_5 rfl ?_
  refine G_callv 11 (G_runV C Kc_X9_become KV_X10_174 (by omega) (lW0 (Or.inr (Or.inl rfl))) (eW _ _ _ (Or.inr (Or.inl rfl))) rfl (c_X9_become 0 54 45 (Or.inr (Or.inl rfl)) (Or.inl rfl) (by decide) s) rfl rfl rfl (Nat.le_of_ble_eq_true rfl) rfl dX10_criedByLots_8) rfl (fun s8 h8 => ?_)
  have fm_1 : cI TX nT n l 45 P s8 := cI_q fm (h8.1.UQ)
  have fq_1 : Fr mQ s s8 := Fr.tr fq (h8.1.UQ)
  have i_1 : cI TX nT n l 54 P s8 := cI_bec fm_1 h8.1 h8.2
  refine G_iconst (v := 0) C 12 dX10_criedByLots_11 rfl rfl ?_
  refine G_istore_n (i := 2) (L' := [some (.ref (e_ad E 0)), some (.int x), some (.int 0), none, none, none, none, none]) C 13 dX10_criedByLots_12 rfl rfl (Nat.le_of_ble_eq_true rfl) rfl rfl ?_
  refine G_iload_n (i := 1) C 14 dX10_criedByLots_13 rfl rfl rfl ?_
  refine G_iconst (v := 1) C 15 dX10_criedByLots_14 rfl rfl ?_
  refine G_iadd C 16 dX10_criedByLots_15 rfl (fun x15 ex15 => ?_)
  have Nx15 : x15 = nI (sd + 1) := g_addN ex15 hx rfl
  refine G_i2l C 17 dX10_criedByLots_16 rfl (fun x16 ex16 => ?_)
  have Nx16 : x16 = lN m := by rw [ex16, Nx15, hm]; exact nI_l (by omega)
  refine G_lstore_n (i := 3) (L' := [some (.ref (e_ad E 0)), some (.int x), some (.int 0), some (.long x16), none, none, none, none]) C 18 dX10_criedByLots_17 rfl rfl (Nat.le_of_ble_eq_true rfl) rfl rfl ?_
  refine G_iconst (v := 0) C 19 dX10_criedByLots_18 rfl rfl ?_
  refine G_istore (L' := [some (.ref (e_ad E 0)), some (.int x), some (.int 0), some (.long x16), none, some (.int 0), none, none]) C 21 dX10_criedByLots_19 rfl (Nat.le_of_ble_eq_true rfl) rfl rfl ?_
  have L21 : ∀ (f21 : Nat) (k : Nat) (cr : Int32) (lo : Int64) (y : Int32) (sl21 : gS) (Elo : lo = lN ((x_lt m (2 * k)))) (Ey : y = nI k) (hk : k ≤ 10) (hcr : cr = x_ltC TX P n m k) (fml21 : cI TX nT n l 45 P sl21) (fql21 : Fr mQ s sl21) (il21 : cI TX nT n l 54 (x_ltP TX P n m k) sl21), 10 < k + f21 → GW SC E (gFin SC E (gQi SC (fun r s' => Fr mQ s s' ∧ cI TX nT n l 54 (x_ltP TX P n m 10) s' ∧ r = x_ltC TX P n m 10))) 21 [some (.ref (e_ad E 0)), some (.int x), some (.int cr), some (.long lo), none, some (.int y), none, none] [] sl21 := by
    intro f21
    induction f21 with
    | zero =>
      intro k cr lo y sl21 Elo Ey hk hcr fml21 fql21 il21 hf21
      exact absurd hf21 (by omega)
    | succ f21 ih21 =>
      intro k cr lo y sl21 Elo Ey hk hcr fml21 fql21 il21 hf21
      refine G_iload C 23 dX10_criedByLots_21 rfl rfl ?_
      refine G_bipush (v := 10) C 25 dX10_criedByLots_23 rfl rfl ?_
      refine G_icmp_ge C 108 28 dX10_criedByLots_25 rfl rfl (fun c25 => ?_) (fun c25 => ?_)
      ·
        have n25 : ¬ k < 10 := fun h => c25 ((g_ltN (a := k) (b := 10) (hx := Ey) (hy := rfl) (by omega) (by omega)).mpr h)
        refine G_iload_n (i := 2) C 109 dX10_criedByLots_108 rfl rfl rfl ?_
        exact G_iret C dX10_criedByLots_109 (⟨fql21, by have e : k = 10 := (by omega); subst e; exact ⟨il21, hcr⟩⟩)
      ·
        have n25 : k < 10 := (g_ltN (a := k) (b := 10) (hx := Ey) (hy := rfl) (by omega) (by omega)).mp c25
        refine G_lload_n (i := 3) C 29 dX10_criedByLots_28 rfl rfl rfl ?_
        refine G_calll 32 (G_runS C Kc_X10_lotBehind KS_X10_265 (by omega) (c_X10_lotBehind 0 (x_lt m (2 * k)) (x_lt_r m hm2 _) lo Elo sl21) rfl rfl (Nat.le_of_ble_eq_true rfl) rfl dX10_criedByLots_29) rfl (fun x29 s29 h29 => ?_)
        obtain ⟨es29, h29⟩ := h29
        have es29 := es29.symm
        subst es29
        refine G_lstore_n (i := 3) (L' := [some (.ref (e_ad E 0)), some (.int x), some (.int cr), some (.long x29), none, some (.int y), none, none]) C 33 dX10_criedByLots_32 rfl rfl (Nat.le_of_ble_eq_true rfl) rfl rfl ?_
        refine G_lload_n (i := 3) C 34 dX10_criedByLots_33 rfl rfl rfl ?_
        refine G_ldc2 (v := 6) C 37 w_754 dX10_criedByLots_34 rfl ?_
        refine G_lrem C 38 dX10_criedByLots_37 rfl (by decide) (fun x37 ex37 => ?_)
        have Nx37 : x37 = lN ((x_lt m (2 * k + 1)) % 6) := l_remN ex37 h29 fa_litL_6 (by have := x_lt_r m hm2 (2 * k + 1); omega) (by decide) (by decide)
        refine G_l2i C 39 dX10_criedByLots_38 rfl (fun x38 ex38 => ?_)
        have Nx38 : x38 = nI (x_lt m (2 * k + 1) % 6) := l_toI ex38 Nx37
        refine G_istore (L' := [some (.ref (e_ad E 0)), some (.int x), some (.int cr), some (.long x29), none, some (.int y), some (.int x38), none]) C 41 dX10_criedByLots_39 rfl (Nat.le_of_ble_eq_true rfl) rfl rfl ?_
        refine G_lload_n (i := 3) C 42 dX10_criedByLots_41 rfl rfl rfl ?_
        refine G_calll 45 (G_runS C Kc_X10_lotBehind KS_X10_265 (by omega) (c_X10_lotBehind 0 (x_lt m (2 * k + 1)) (x_lt_r m hm2 _) x29 h29 sl21) rfl rfl (Nat.le_of_ble_eq_true rfl) rfl dX10_criedByLots_42) rfl (fun x42 s42 h42 => ?_)
        obtain ⟨es42, h42⟩ := h42
        have es42 := es42.symm
        subst es42
        refine G_lstore_n (i := 3) (L' := [some (.ref (e_ad E 0)), some (.int x), some (.int cr), some (.long x42), none, some (.int y), some (.int x38), none]) C 46 dX10_criedByLots_45 rfl rfl (Nat.le_of_ble_eq_true rfl) rfl rfl ?_
        refine G_lload_n (i := 3) C 47 dX10_criedByLots_46 rfl rfl rfl ?_
        refine G_ldc2 (v := 10) C 50 w_755 dX10_criedByLots_47 rfl ?_
        refine G_lrem C 51 dX10_criedByLots_50 rfl (by decide) (fun x50 ex50 => ?_)
        have Nx50 : x50 = lN ((x_lt m (2 * k + 2)) % 10) := l_remN ex50 h42 fa_litL_10 (by have := x_lt_r m hm2 (2 * k + 2); omega) (by decide) (by decide)
        refine G_l2i C 52 dX10_criedByLots_51 rfl (fun x51 ex51 => ?_)
        have Nx51 : x51 = nI (x_lt m (2 * k + 2) % 10) := l_toI ex51 Nx50
        refine G_istore (L' := [some (.ref (e_ad E 0)), some (.int x), some (.int cr), some (.long x42), none, some (.int y), some (.int x38), some (.int x51)]) C 54 dX10_criedByLots_52 rfl (Nat.le_of_ble_eq_true rfl) rfl rfl ?_
        refine G_aload_n (i := 0) C 55 dX10_criedByLots_54 rfl rfl rfl ?_
        refine X10_61g C 58 dX10_criedByLots_55 rfl ?_
        refine G_iload C 60 dX10_criedByLots_58 rfl rfl ?_
        refine G_calli 63 (G_runV C Kc_X9_isOne KV_X10_139 (by omega) (lW0 (Or.inr (Or.inl rfl))) (eW _ _ _ (Or.inr (Or.inl rfl))) rfl (c_X9_isOne 0 54 n (Or.inr (Or.inl rfl)) sl21 (cI_n il21) x38) rfl rfl rfl (Nat.le_of_ble_eq_true rfl) rfl dX10_criedByLots_60) rfl (fun x60 s60 h60 => ?_)
        obtain ⟨es60, h60⟩ := h60
        have es60 := es60.symm
        subst es60
        refine G_if_eq C 83 66 dX10_criedByLots_63 rfl rfl (fun c63 => ?_) (fun c63 => ?_)
        ·
          have k63 := h60.symm.trans c63
          have hno : ¬ x_lt m (2 * k + 1) % 6 < n := by rw [Nx38] at k63; exact (x_one_iff (by omega) (by omega)).mp k63
          have i9 : cI TX nT n l 54 (x_tw (x_ltP TX P n m k) n (x_lt m (2 * k + 1)) (x_lt m (2 * k + 2))) sl21 := by rw [x_tw_out hno]; exact il21
          refine G_iload_n (i := 2) C 84 dX10_criedByLots_83 rfl rfl rfl ?_
          refine G_aload_n (i := 0) C 85 dX10_criedByLots_84 rfl rfl rfl ?_
          refine X10_61g C 88 dX10_criedByLots_85 rfl ?_
          refine G_calli 91 (G_runV C Kc_X9_pass KV_X10_171 (by omega) (lW0 (Or.inr (Or.inl rfl))) (eW _ _ _ (Or.inr (Or.inl rfl))) rfl (c_X9_pass 0 TX nT n l 54 (x_tw (x_ltP TX P n m k) n (x_lt m (2 * k + 1)) (x_lt m (2 * k + 2))) sl21 i9) rfl rfl rfl (Nat.le_of_ble_eq_true rfl) rfl dX10_criedByLots_88) rfl (fun x88 s88 h88 => ?_)
          have fm_2 : cI TX nT n l 45 P s88 := cI_q fml21 (h88.1.Q)
          have fq_2 : Fr mQ s s88 := Fr.tr fql21 (h88.1.Q)
          have i_2 : cI TX nT n l 54 (x_ltP TX P n m (k + 1)) s88 := h88.2.1
          refine G_iconst (v := (-1)) C 92 dX10_criedByLots_91 rfl rfl ?_
          refine G_icmp_ne C 99 95 dX10_criedByLots_92 rfl rfl (fun c92 => ?_) (fun c92 => ?_)
          ·
            refine G_iconst (v := 1) C 100 dX10_criedByLots_99 rfl rfl ?_
            refine G_iadd C 101 dX10_criedByLots_100 rfl (fun x100 ex100 => ?_)
            refine G_istore_n (i := 2) (L' := [some (.ref (e_ad E 0)), some (.int x), some (.int x100), some (.long x42), none, some (.int y), some (.int x38), some (.int x51)]) C 102 dX10_criedByLots_101 rfl rfl (Nat.le_of_ble_eq_true rfl) rfl rfl ?_
            refine G_iinc (w := 1) C 105 dX10_criedByLots_102 rfl rfl rfl rfl (fun x102 ex102 => ?_)
            have Nx102 : x102 = nI (k + 1) := g_addN ex102 Ey rfl
            show GW SC E _ 105 [some (.ref (e_ad E 0)), some (.int x), some (.int x100), some (.long x42), none, some (.int x102), some (.int x38), some (.int x51)] [] s88
            refine G_goto C 21 dX10_criedByLots_105 rfl ?_
            refine G_drop (L' := [some (.ref (e_ad E 0)), some (.int x), some (.int x100), some (.long x42), none, some (.int x102), none, none]) ⟨rfl, rfl, rfl, rfl, rfl, trivial⟩ ?_
            exact ih21 (k + 1) x100 x42 x102 s88 (l_cn (a := (x_lt m (2 * k + 2))) h42 (by first | rfl | omega | (simp only [List.length_cons, List.length_drop]; done) | (simp only [List.length_cons, List.length_drop]; omega))) (g_cn (a := (k + 1)) Nx102 (by first | rfl | omega | (simp only [List.length_cons, List.length_drop]; done) | (simp only [List.length_cons, List.length_drop]; omega))) (by omega) (by rw [x_ltC, if_neg (by rw [← h88.2.2]; exact c92), ex100, hcr]) fm_2 fq_2 (i_2) (by omega)
          ·
            refine G_iconst (v := 0) C 96 dX10_criedByLots_95 rfl rfl ?_
            refine G_goto C 100 dX10_criedByLots_96 rfl ?_
            refine G_iadd C 101 dX10_criedByLots_100 rfl (fun x100 ex100 => ?_)
            refine G_istore_n (i := 2) (L' := [some (.ref (e_ad E 0)), some (.int x), some (.int x100), some (.long x42), none, some (.int y), some (.int x38), some (.int x51)]) C 102 dX10_criedByLots_101 rfl rfl (Nat.le_of_ble_eq_true rfl) rfl rfl ?_
            refine G_iinc (w := 1) C 105 dX10_criedByLots_102 rfl rfl rfl rfl (fun x102 ex102 => ?_)
            have Nx102 : x102 = nI (k + 1) := g_addN ex102 Ey rfl
            show GW SC E _ 105 [some (.ref (e_ad E 0)), some (.int x), some (.int x100), some (.long x42), none, some (.int x102), some (.int x38), some (.int x51)] [] s88
            refine G_goto C 21 dX10_criedByLots_105 rfl ?_
            refine G_drop (L' := [some (.ref (e_ad E 0)), some (.int x), some (.int x100), some (.long x42), none, some (.int x102), none, none]) ⟨rfl, rfl, rfl, rfl, rfl, trivial⟩ ?_
            exact ih21 (k + 1) x100 x42 x102 s88 (l_cn (a := (x_lt m (2 * k + 2))) h42 (by first | rfl | omega | (simp only [List.length_cons, List.length_drop]; done) | (simp only [List.length_cons, List.length_drop]; omega))) (g_cn (a := (k + 1)) Nx102 (by first | rfl | omega | (simp only [List.length_cons, List.length_drop]; done) | (simp only [List.length_cons, List.length_drop]; omega))) (by omega) (by rw [x_ltC, if_pos (h88.2.2.symm.trans c92), ex100, hcr, Int32.add_zero]) fm_2 fq_2 (i_2) (by omega)
        ·
          have k63 := g_neT h60 c63
          have hyes : x_lt m (2 * k + 1) % 6 < n := by rw [Nx38] at k63; exact Classical.byContradiction (fun w => k63 ((x_one_iff (by omega) (by omega)).mpr w))
          refine G_aload_n (i := 0) C 67 dX10_criedByLots_66 rfl rfl rfl ?_
          refine X10_61g C 70 dX10_criedByLots_67 rfl ?_
          refine X10_273g C (Or.inr (Or.inl rfl)) 73 dX10_criedByLots_70 rfl ?_
          refine G_iload C 75 dX10_criedByLots_73 rfl rfl ?_
          refine G_dup2 C 76 dX10_criedByLots_75 rfl rfl rfl ?_
          refine G_iald (n := 6) C 77 (lW (Or.inr (Or.inl rfl)) (by decide)) (eW3 _ _ _ (Or.inr (Or.inl rfl))) ((x_lt m (2 * k + 1) % 6)) Nx38 (by omega) (by decide) dX10_criedByLots_76 rfl (fun x76 ex76 => ?_)
          have Sx76 : x76 = (x_ltP TX P n m k) 3 ((x_lt m (2 * k + 1) % 6)) := ex76.trans (congrFun (congrFun il21.2.1 3) _)
          obtain ⟨mx76, hmx76, emx76⟩ := (cI_p il21 (p := (x_lt m (2 * k + 1) % 6)) (by omega)).2.1
          refine G_iconst (v := 1) C 78 dX10_criedByLots_77 rfl rfl ?_
          refine G_iload C 80 dX10_criedByLots_78 rfl rfl ?_
          refine G_ishl C 81 dX10_criedByLots_80 rfl (fun x80 ex80 => ?_)
          refine G_ixor C 82 dX10_criedByLots_81 rfl (fun x81 ex81 => ?_)
          refine G_iast (n := 6) C 83 (lW (Or.inr (Or.inl rfl)) (by decide)) (fun σ => eW3 _ _ σ (Or.inr (Or.inl rfl))) ((x_lt m (2 * k + 1) % 6)) Nx38 (by omega) (by decide) (Nat.le_of_eq (nWi (Or.inr (Or.inl rfl)) (by decide) (by decide)).symm) dX10_criedByLots_82 rfl (fun s82 es82 => ?_)
          have fm_2 : cI TX nT n l 45 P s82 := cI_q fml21 (Fr.up es82 (mQ_w (by decide)))
          have fq_2 : Fr mQ s s82 := Fr.tr fql21 (Fr.up es82 (mQ_w (by decide)))
          have i_2 : cI TX nT n l 54 (x_tw (x_ltP TX P n m k) n (x_lt m (2 * k + 1)) (x_lt m (2 * k + 2))) s82 := by have z := cI_up3 il21 es82 (by rw [ex81, ex80, Nx51, Sx76]; exact bt_xor1024 ⟨mx76, hmx76, emx76⟩ (bt_1024p (by omega))); rw [ex81, ex80, Nx51, Sx76] at z; rw [x_tw_in hyes]; exact z
          refine G_iload_n (i := 2) C 84 dX10_criedByLots_83 rfl rfl rfl ?_
          refine G_aload_n (i := 0) C 85 dX10_criedByLots_84 rfl rfl rfl ?_
          refine X10_61g C 88 dX10_criedByLots_85 rfl ?_
          refine G_calli 91 (G_runV C Kc_X9_pass KV_X10_171 (by omega) (lW0 (Or.inr (Or.inl rfl))) (eW _ _ _ (Or.inr (Or.inl rfl))) rfl (c_X9_pass 0 TX nT n l 54 (x_tw (x_ltP TX P n m k) n (x_lt m (2 * k + 1)) (x_lt m (2 * k + 2))) s82 i_2) rfl rfl rfl (Nat.le_of_ble_eq_true rfl) rfl dX10_criedByLots_88) rfl (fun x88 s88 h88 => ?_)
          have fm_3 : cI TX nT n l 45 P s88 := cI_q fm_2 (h88.1.Q)
          have fq_3 : Fr mQ s s88 := Fr.tr fq_2 (h88.1.Q)
          have i_3 : cI TX nT n l 54 (x_ltP TX P n m (k + 1)) s88 := h88.2.1
          refine G_iconst (v := (-1)) C 92 dX10_criedByLots_91 rfl rfl ?_
          refine G_icmp_ne C 99 95 dX10_criedByLots_92 rfl rfl (fun c92 => ?_) (fun c92 => ?_)
          ·
            refine G_iconst (v := 1) C 100 dX10_criedByLots_99 rfl rfl ?_
            refine G_iadd C 101 dX10_criedByLots_100 rfl (fun x100 ex100 => ?_)
            refine G_istore_n (i := 2) (L' := [some (.ref (e_ad E 0)), some (.int x), some (.int x100), some (.long x42), none, some (.int y), some (.int x38), some (.int x51)]) C 102 dX10_criedByLots_101 rfl rfl (Nat.le_of_ble_eq_true rfl) rfl rfl ?_
            refine G_iinc (w := 1) C 105 dX10_criedByLots_102 rfl rfl rfl rfl (fun x102 ex102 => ?_)
            have Nx102 : x102 = nI (k + 1) := g_addN ex102 Ey rfl
            show GW SC E _ 105 [some (.ref (e_ad E 0)), some (.int x), some (.int x100), some (.long x42), none, some (.int x102), some (.int x38), some (.int x51)] [] s88
            refine G_goto C 21 dX10_criedByLots_105 rfl ?_
            refine G_drop (L' := [some (.ref (e_ad E 0)), some (.int x), some (.int x100), some (.long x42), none, some (.int x102), none, none]) ⟨rfl, rfl, rfl, rfl, rfl, trivial⟩ ?_
            exact ih21 (k + 1) x100 x42 x102 s88 (l_cn (a := (x_lt m (2 * k + 2))) h42 (by first | rfl | omega | (simp only [List.length_cons, List.length_drop]; done) | (simp only [List.length_cons, List.length_drop]; omega))) (g_cn (a := (k + 1)) Nx102 (by first | rfl | omega | (simp only [List.length_cons, List.length_drop]; done) | (simp only [List.length_cons, List.length_drop]; omega))) (by omega) (by rw [x_ltC, if_neg (by rw [← h88.2.2]; exact c92), ex100, hcr]) fm_3 fq_3 (i_3) (by omega)
          ·
            refine G_iconst (v := 0) C 96 dX10_criedByLots_95 rfl rfl ?_
            refine G_goto C 100 dX10_criedByLots_96 rfl ?_
            refine G_iadd C 101 dX10_criedByLots_100 rfl (fun x100 ex100 => ?_)
            refine G_istore_n (i := 2) (L' := [some (.ref (e_ad E 0)), some (.int x), some (.int x100), some (.long x42), none, some (.int y), some (.int x38), some (.int x51)]) C 102 dX10_criedByLots_101 rfl rfl (Nat.le_of_ble_eq_true rfl) rfl rfl ?_
            refine G_iinc (w := 1) C 105 dX10_criedByLots_102 rfl rfl rfl rfl (fun x102 ex102 => ?_)
            have Nx102 : x102 = nI (k + 1) := g_addN ex102 Ey rfl
            show GW SC E _ 105 [some (.ref (e_ad E 0)), some (.int x), some (.int x100), some (.long x42), none, some (.int x102), some (.int x38), some (.int x51)] [] s88
            refine G_goto C 21 dX10_criedByLots_105 rfl ?_
            refine G_drop (L' := [some (.ref (e_ad E 0)), some (.int x), some (.int x100), some (.long x42), none, some (.int x102), none, none]) ⟨rfl, rfl, rfl, rfl, rfl, trivial⟩ ?_
            exact ih21 (k + 1) x100 x42 x102 s88 (l_cn (a := (x_lt m (2 * k + 2))) h42 (by first | rfl | omega | (simp only [List.length_cons, List.length_drop]; done) | (simp only [List.length_cons, List.length_drop]; omega))) (g_cn (a := (k + 1)) Nx102 (by first | rfl | omega | (simp only [List.length_cons, List.length_drop]; done) | (simp only [List.length_cons, List.length_drop]; omega))) (by omega) (by rw [x_ltC, if_pos (h88.2.2.symm.trans c92), ex100, hcr, Int32.add_zero]) fm_3 fq_3 (i_3) (by omega)
  exact L21 (10 + 1) 0 0 x16 0 s8 (l_cn (a := m) Nx16 (by first | rfl | omega)) (g_cn (a := 0) rfl (by first | rfl | omega)) (by omega) (rfl) fm_1 fq_1 (i_1) (by omega)
theorem dX10_drawn_0 : decode cX10_drawn 0 = .ok (.iload_n 1, 1) := by decide +kernel
theorem dX10_drawn_1 : decode cX10_drawn 1 = .ok (.iconst 0, 1) := by decide +kernel
theorem dX10_drawn_2 : decode cX10_drawn 2 = .ok (.ldc 231, 2) := by decide +kernel
theorem dX10_drawn_4 : decode cX10_drawn 4 = .ok (.invokestatic 112, 3) := by decide +kernel
theorem dX10_drawn_7 : decode cX10_drawn 7 = .ok (.ifCond .eq 12, 3) := by decide +kernel
theorem dX10_drawn_10 : decode cX10_drawn 10 = .ok (.iload_n 2, 1) := by decide +kernel
theorem dX10_drawn_11 : decode cX10_drawn 11 = .ok (.iconst 0, 1) := by decide +kernel
theorem dX10_drawn_12 : decode cX10_drawn 12 = .ok (.iconst 1, 1) := by decide +kernel
theorem dX10_drawn_13 : decode cX10_drawn 13 = .ok (.invokestatic 112, 3) := by decide +kernel
theorem dX10_drawn_16 : decode cX10_drawn 16 = .ok (.ifCond .ne 6, 3) := by decide +kernel
theorem dX10_drawn_19 : decode cX10_drawn 19 = .ok (.bipush (-2), 2) := by decide +kernel
theorem dX10_drawn_21 : decode cX10_drawn 21 = .ok (.ireturn, 1) := by decide +kernel
theorem dX10_drawn_22 : decode cX10_drawn 22 = .ok (.aload_n 0, 1) := by decide +kernel
theorem dX10_drawn_23 : decode cX10_drawn 23 = .ok (.iload_n 1, 1) := by decide +kernel
theorem dX10_drawn_24 : decode cX10_drawn 24 = .ok (.invokevirtual 232, 3) := by decide +kernel
theorem dX10_drawn_27 : decode cX10_drawn 27 = .ok (.istore_n 3, 1) := by decide +kernel
theorem dX10_drawn_28 : decode cX10_drawn 28 = .ok (.iload_n 2, 1) := by decide +kernel
theorem dX10_drawn_29 : decode cX10_drawn 29 = .ok (.ifCond .ne 7, 3) := by decide +kernel
theorem dX10_drawn_32 : decode cX10_drawn 32 = .ok (.iload_n 3, 1) := by decide +kernel
theorem dX10_drawn_33 : decode cX10_drawn 33 = .ok (.goto 10, 3) := by decide +kernel
theorem dX10_drawn_36 : decode cX10_drawn 36 = .ok (.aload_n 0, 1) := by decide +kernel
theorem dX10_drawn_37 : decode cX10_drawn 37 = .ok (.getfield 61, 3) := by decide +kernel
theorem dX10_drawn_40 : decode cX10_drawn 40 = .ok (.getfield 100, 3) := by decide +kernel
theorem dX10_drawn_43 : decode cX10_drawn 43 = .ok (.ireturn, 1) := by decide +kernel
set_option maxHeartbeats 4000000 in
set_option maxRecDepth 100000 in
theorem c_X10_drawn (d : Nat) (TX : gTX) (P B s : gS) (hR0 : RC TX P B s) (t q : Int32) : gMt SC yX10_drawn cX10_drawn 4 (some .int) (d + 11) (fun ad => [.ref (ad 0), .int t, .int q]) s (gQi SC (fun r s' => RC TX P B s' ∧ r = s_drawn TX P t q)) := by
  obtain ⟨nT, n, l, hR⟩ := hR0
  have hI := hR.1
  have hn6 : n ≤ 6 := hI.2.2.1.2.1
  have hl6 : l < 6 := cI_l6 hI
  have hxn : x_n P = n := x_nOf hI.2.2.1.1 hn6
  have hbI := hR.2.2
  refine gMt_of SC_ok (by decide +kernel) (fun ad => [some (.ref (ad 0)), some (.int t), some (.int q), none]) (fun _ => rfl) (fun _ => rfl) (fun _ => Nat.le_of_ble_eq_true rfl) (fun E C0 => ?_)
  have C : gCx SC E RX10 cX10_drawn 4 (some .int) (d + 11) := C0
  have fm : cI TX nT n l 45 P s := hI
  have fq : Fr mQ s s := Fr.rf
  refine G_iload_n (i := 1) C 1 dX10_drawn_0 rfl rfl rfl ?_
  refine G_iconst (v := 0) C 2 dX10_drawn_1 rfl rfl ?_
  refine G_ldc (v := 99999) C 4 w_744 dX10_drawn_2 rfl ?_
  refine G_calli 7 (G_runS C Kc_X10_within KS_X10_112 (by omega) (c_X10_within 0 t 0 99999 s) rfl rfl (Nat.le_of_ble_eq_true rfl) rfl dX10_drawn_4) rfl (fun x4 s4 h4 => ?_)
  obtain ⟨es4, h4⟩ := h4
  have es4 := es4.symm
  subst es4
  refine G_if_eq C 19 10 dX10_drawn_7 rfl rfl (fun c7 => ?_) (fun c7 => ?_)
  ·
    have k7 := h4.symm.trans c7
    refine G_bipush (v := (-2)) C 21 dX10_drawn_19 rfl rfl ?_
    exact G_iret C dX10_drawn_21 (⟨RC_q hR fq, by unfold s_drawn; rw [if_pos k7]⟩)
  ·
    have k7 := g_neT h4 c7
    obtain ⟨ut, hut, eut⟩ := x_inR (b := 99999) k7 rfl (by decide)
    have cut : t.toNatClampNeg = ut := by rw [eut, nI_clamp (by omega)]
    refine G_iload_n (i := 2) C 11 dX10_drawn_10 rfl rfl rfl ?_
    refine G_iconst (v := 0) C 12 dX10_drawn_11 rfl rfl ?_
    refine G_iconst (v := 1) C 13 dX10_drawn_12 rfl rfl ?_
    refine G_calli 16 (G_runS C Kc_X10_within KS_X10_112 (by omega) (c_X10_within 0 q 0 1 s) rfl rfl (Nat.le_of_ble_eq_true rfl) rfl dX10_drawn_13) rfl (fun x13 s13 h13 => ?_)
    obtain ⟨es13, h13⟩ := h13
    have es13 := es13.symm
    subst es13
    refine G_if_ne C 22 19 dX10_drawn_16 rfl rfl (fun c16 => ?_) (fun c16 => ?_)
    ·
      have k16 := g_neT h13 c16
      refine G_aload_n (i := 0) C 23 dX10_drawn_22 rfl rfl rfl ?_
      refine G_iload_n (i := 1) C 24 dX10_drawn_23 rfl rfl rfl ?_
      refine G_calli 27 (G_runV C Kc_X10_criedByLots KV_X10_232 (by omega) (by decide) (eC _ _ _) rfl (c_X10_criedByLots 0 TX nT n l P B s (Rc_q hR fq) t ut (ut + 1) eut (by omega) rfl) rfl rfl rfl (Nat.le_of_ble_eq_true rfl) rfl dX10_drawn_24) rfl (fun x24 s24 h24 => ?_)
      have fm_1 : cI TX nT n l 45 P s24 := cI_q fm (h24.1)
      have fq_1 : Fr mQ s s24 := Fr.tr fq (h24.1)
      have i8 : cI TX nT n l 54 (x_ltP TX P n (ut + 1) 10) s24 := h24.2.1
      refine G_istore_n (i := 3) (L' := [some (.ref (e_ad E 0)), some (.int t), some (.int q), some (.int x24)]) C 28 dX10_drawn_27 rfl rfl (Nat.le_of_ble_eq_true rfl) rfl rfl ?_
      refine G_iload_n (i := 2) C 29 dX10_drawn_28 rfl rfl rfl ?_
      refine G_if_ne C 36 32 dX10_drawn_29 rfl rfl (fun c29 => ?_) (fun c29 => ?_)
      ·
        refine G_aload_n (i := 0) C 37 dX10_drawn_36 rfl rfl rfl ?_
        refine X10_61g C 40 dX10_drawn_37 rfl ?_
        refine X10_100g C (Or.inr (Or.inl rfl)) 43 dX10_drawn_40 rfl (fun x40 ex40 => ?_)
        have Sx40 : x40 = (x_ltP TX P n (ut + 1) 10) 0 2 := ex40.trans (cI_v i8 0 2)
        obtain ⟨mx40, hmx40, emx40⟩ := i8.2.2.1.2.2.2.2.2.2.2.1
        exact G_iret C dX10_drawn_43 (⟨RC_q hR fq_1, by unfold s_drawn; rw [if_neg k7, if_neg k16, cut, hxn, if_neg c29]; exact Sx40⟩)
      ·
        refine G_iload_n (i := 3) C 33 dX10_drawn_32 rfl rfl rfl ?_
        refine G_goto C 43 dX10_drawn_33 rfl ?_
        exact G_iret C dX10_drawn_43 (⟨RC_q hR fq_1, by unfold s_drawn; rw [if_neg k7, if_neg k16, cut, hxn, if_pos c29]; exact h24.2.2⟩)
    ·
      have k16 := h13.symm.trans c16
      refine G_bipush (v := (-2)) C 21 dX10_drawn_19 rfl rfl ?_
      exact G_iret C dX10_drawn_21 (⟨RC_q hR fq, by unfold s_drawn; rw [if_neg k7, if_pos k16]⟩)
theorem x_od_r (TX : gTX) (P : gS) (n m : Nat) (le : Int32) : ∀ k, x_od TX P n m le k ≤ k := by
  intro k
  induction k with
  | zero => exact Nat.le_refl _
  | succ k ih =>
    unfold x_od
    split
    · omega
    · omega
theorem dX10_odds_0 : decode cX10_odds 0 = .ok (.iload_n 1, 1) := by decide +kernel
theorem dX10_odds_1 : decode cX10_odds 1 = .ok (.iconst 0, 1) := by decide +kernel
theorem dX10_odds_2 : decode cX10_odds 2 = .ok (.ldc 231, 2) := by decide +kernel
theorem dX10_odds_4 : decode cX10_odds 4 = .ok (.invokestatic 112, 3) := by decide +kernel
theorem dX10_odds_7 : decode cX10_odds 7 = .ok (.ifCond .eq 17, 3) := by decide +kernel
theorem dX10_odds_10 : decode cX10_odds 10 = .ok (.iload_n 2, 1) := by decide +kernel
theorem dX10_odds_11 : decode cX10_odds 11 = .ok (.iconst 1, 1) := by decide +kernel
theorem dX10_odds_12 : decode cX10_odds 12 = .ok (.bipush 40, 2) := by decide +kernel
theorem dX10_odds_14 : decode cX10_odds 14 = .ok (.invokestatic 112, 3) := by decide +kernel
theorem dX10_odds_17 : decode cX10_odds 17 = .ok (.ifCond .eq 7, 3) := by decide +kernel
theorem dX10_odds_20 : decode cX10_odds 20 = .ok (.iconst 1, 1) := by decide +kernel
theorem dX10_odds_21 : decode cX10_odds 21 = .ok (.goto 4, 3) := by decide +kernel
theorem dX10_odds_24 : decode cX10_odds 24 = .ok (.iconst 0, 1) := by decide +kernel
theorem dX10_odds_25 : decode cX10_odds 25 = .ok (.istore 5, 2) := by decide +kernel
theorem dX10_odds_27 : decode cX10_odds 27 = .ok (.iload 5, 2) := by decide +kernel
theorem dX10_odds_29 : decode cX10_odds 29 = .ok (.ifCond .eq 23, 3) := by decide +kernel
theorem dX10_odds_32 : decode cX10_odds 32 = .ok (.iload_n 3, 1) := by decide +kernel
theorem dX10_odds_33 : decode cX10_odds 33 = .ok (.iconst 0, 1) := by decide +kernel
theorem dX10_odds_34 : decode cX10_odds 34 = .ok (.bipush 10, 2) := by decide +kernel
theorem dX10_odds_36 : decode cX10_odds 36 = .ok (.invokestatic 112, 3) := by decide +kernel
theorem dX10_odds_39 : decode cX10_odds 39 = .ok (.ifCond .eq 13, 3) := by decide +kernel
theorem dX10_odds_42 : decode cX10_odds 42 = .ok (.iload 4, 2) := by decide +kernel
theorem dX10_odds_44 : decode cX10_odds 44 = .ok (.iconst 0, 1) := by decide +kernel
theorem dX10_odds_45 : decode cX10_odds 45 = .ok (.iconst 1, 1) := by decide +kernel
theorem dX10_odds_46 : decode cX10_odds 46 = .ok (.invokestatic 112, 3) := by decide +kernel
theorem dX10_odds_49 : decode cX10_odds 49 = .ok (.ifCond .ne 7, 3) := by decide +kernel
theorem dX10_odds_52 : decode cX10_odds 52 = .ok (.ldc2_w 206, 3) := by decide +kernel
theorem dX10_odds_55 : decode cX10_odds 55 = .ok (.lreturn, 1) := by decide +kernel
theorem dX10_odds_56 : decode cX10_odds 56 = .ok (.iconst 0, 1) := by decide +kernel
theorem dX10_odds_57 : decode cX10_odds 57 = .ok (.istore 6, 2) := by decide +kernel
theorem dX10_odds_59 : decode cX10_odds 59 = .ok (.iconst 0, 1) := by decide +kernel
theorem dX10_odds_60 : decode cX10_odds 60 = .ok (.istore 7, 2) := by decide +kernel
theorem dX10_odds_62 : decode cX10_odds 62 = .ok (.iload 7, 2) := by decide +kernel
theorem dX10_odds_64 : decode cX10_odds 64 = .ok (.iload_n 2, 1) := by decide +kernel
theorem dX10_odds_65 : decode cX10_odds 65 = .ok (.if_icmp .ge 24, 3) := by decide +kernel
theorem dX10_odds_68 : decode cX10_odds 68 = .ok (.aload_n 0, 1) := by decide +kernel
theorem dX10_odds_69 : decode cX10_odds 69 = .ok (.iload_n 1, 1) := by decide +kernel
theorem dX10_odds_70 : decode cX10_odds 70 = .ok (.iload 7, 2) := by decide +kernel
theorem dX10_odds_72 : decode cX10_odds 72 = .ok (.iadd, 1) := by decide +kernel
theorem dX10_odds_73 : decode cX10_odds 73 = .ok (.invokevirtual 232, 3) := by decide +kernel
theorem dX10_odds_76 : decode cX10_odds 76 = .ok (.iload_n 3, 1) := by decide +kernel
theorem dX10_odds_77 : decode cX10_odds 77 = .ok (.if_icmp .lt 6, 3) := by decide +kernel
theorem dX10_odds_80 : decode cX10_odds 80 = .ok (.iinc 6 1, 3) := by decide +kernel
theorem dX10_odds_83 : decode cX10_odds 83 = .ok (.iinc 7 1, 3) := by decide +kernel
theorem dX10_odds_86 : decode cX10_odds 86 = .ok (.goto (-24), 3) := by decide +kernel
theorem dX10_odds_89 : decode cX10_odds 89 = .ok (.iload 6, 2) := by decide +kernel
theorem dX10_odds_91 : decode cX10_odds 91 = .ok (.iload_n 2, 1) := by decide +kernel
theorem dX10_odds_92 : decode cX10_odds 92 = .ok (.iload 4, 2) := by decide +kernel
theorem dX10_odds_94 : decode cX10_odds 94 = .ok (.invokestatic 208, 3) := by decide +kernel
theorem dX10_odds_97 : decode cX10_odds 97 = .ok (.lreturn, 1) := by decide +kernel
set_option maxHeartbeats 4000000 in
set_option maxRecDepth 100000 in
theorem c_X10_odds (d : Nat) (TX : gTX) (P B s : gS) (hR0 : RC TX P B s) (t v w q : Int32) : gMt SC yX10_odds cX10_odds 8 (some .long) (d + 11) (fun ad => [.ref (ad 0), .int t, .int v, .int w, .int q]) s (gQl SC (fun r s' => RC TX P B s' ∧ r = s_odds TX P t v w q)) := by
  obtain ⟨nT, n, l, hR⟩ := hR0
  have hI := hR.1
  have hn6 : n ≤ 6 := hI.2.2.1.2.1
  have hl6 : l < 6 := cI_l6 hI
  have hxn : x_n P = n := x_nOf hI.2.2.1.1 hn6
  have hbI := hR.2.2
  refine gMt_of SC_ok (by decide +kernel) (fun ad => [some (.ref (ad 0)), some (.int t), some (.int v), some (.int w), some (.int q), none, none, none]) (fun _ => rfl) (fun _ => rfl) (fun _ => Nat.le_of_ble_eq_true rfl) (fun E C0 => ?_)
  have C : gCx SC E RX10 cX10_odds 8 (some .long) (d + 11) := C0
  have fm : cI TX nT n l 45 P s := hI
  have fq : Fr mQ s s := Fr.rf
  refine G_iload_n (i := 1) C 1 dX10_odds_0 rfl rfl rfl ?_
  refine G_iconst (v := 0) C 2 dX10_odds_1 rfl rfl ?_
  refine G_ldc (v := 99999) C 4 w_744 dX10_odds_2 rfl ?_
  refine G_calli 7 (G_runS C Kc_X10_within KS_X10_112 (by omega) (c_X10_within 0 t 0 99999 s) rfl rfl (Nat.le_of_ble_eq_true rfl) rfl dX10_odds_4) rfl (fun x4 s4 h4 => ?_)
  obtain ⟨es4, h4⟩ := h4
  have es4 := es4.symm
  subst es4
  refine G_if_eq C 24 10 dX10_odds_7 rfl rfl (fun c7 => ?_) (fun c7 => ?_)
  ·
    have k7 := h4.symm.trans c7
    refine G_iconst (v := 0) C 25 dX10_odds_24 rfl rfl ?_
    refine G_istore (L' := [some (.ref (e_ad E 0)), some (.int t), some (.int v), some (.int w), some (.int q), some (.int 0), none, none]) C 27 dX10_odds_25 rfl (Nat.le_of_ble_eq_true rfl) rfl rfl ?_
    refine G_iload C 29 dX10_odds_27 rfl rfl ?_
    refine G_if_eq C 52 32 dX10_odds_29 rfl rfl (fun _ => ?_) (fun c => absurd c (by decide))
    refine G_ldc2 (v := (-4611686018427387904)) C 55 w_688 dX10_odds_52 rfl ?_
    exact G_lret C dX10_odds_55 (⟨RC_q hR fq, by unfold s_odds; rw [if_pos k7]⟩)
  ·
    have k7 := g_neT h4 c7
    obtain ⟨ut, hut, eut⟩ := x_inR (b := 99999) k7 rfl (by decide)
    have cut : t.toNatClampNeg = ut := by rw [eut, nI_clamp (by omega)]
    refine G_iload_n (i := 2) C 11 dX10_odds_10 rfl rfl rfl ?_
    refine G_iconst (v := 1) C 12 dX10_odds_11 rfl rfl ?_
    refine G_bipush (v := 40) C 14 dX10_odds_12 rfl rfl ?_
    refine G_calli 17 (G_runS C Kc_X10_within KS_X10_112 (by omega) (c_X10_within 0 v 1 40 s) rfl rfl (Nat.le_of_ble_eq_true rfl) rfl dX10_odds_14) rfl (fun x14 s14 h14 => ?_)
    obtain ⟨es14, h14⟩ := h14
    have es14 := es14.symm
    subst es14
    refine G_if_eq C 24 20 dX10_odds_17 rfl rfl (fun c17 => ?_) (fun c17 => ?_)
    ·
      have k17 := h14.symm.trans c17
      refine G_iconst (v := 0) C 25 dX10_odds_24 rfl rfl ?_
      refine G_istore (L' := [some (.ref (e_ad E 0)), some (.int t), some (.int v), some (.int w), some (.int q), some (.int 0), none, none]) C 27 dX10_odds_25 rfl (Nat.le_of_ble_eq_true rfl) rfl rfl ?_
      refine G_iload C 29 dX10_odds_27 rfl rfl ?_
      refine G_if_eq C 52 32 dX10_odds_29 rfl rfl (fun _ => ?_) (fun c => absurd c (by decide))
      refine G_ldc2 (v := (-4611686018427387904)) C 55 w_688 dX10_odds_52 rfl ?_
      exact G_lret C dX10_odds_55 (⟨RC_q hR fq, by unfold s_odds; rw [if_neg k7, if_pos k17]⟩)
    ·
      have k17 := g_neT h14 c17
      obtain ⟨uv, guv, huv, euv⟩ := x_inR1 (b := 40) k17 rfl (by decide)
      have cuv : v.toNatClampNeg = uv := by rw [euv, nI_clamp (by omega)]
      refine G_iconst (v := 1) C 21 dX10_odds_20 rfl rfl ?_
      refine G_goto C 25 dX10_odds_21 rfl ?_
      refine G_istore (L' := [some (.ref (e_ad E 0)), some (.int t), some (.int v), some (.int w), some (.int q), some (.int 1), none, none]) C 27 dX10_odds_25 rfl (Nat.le_of_ble_eq_true rfl) rfl rfl ?_
      refine G_iload C 29 dX10_odds_27 rfl rfl ?_
      refine G_if_eq C 52 32 dX10_odds_29 rfl rfl (fun c => absurd c (by decide)) (fun _ => ?_)
      refine G_iload_n (i := 3) C 33 dX10_odds_32 rfl rfl rfl ?_
      refine G_iconst (v := 0) C 34 dX10_odds_33 rfl rfl ?_
      refine G_bipush (v := 10) C 36 dX10_odds_34 rfl rfl ?_
      refine G_calli 39 (G_runS C Kc_X10_within KS_X10_112 (by omega) (c_X10_within 0 w 0 10 s) rfl rfl (Nat.le_of_ble_eq_true rfl) rfl dX10_odds_36) rfl (fun x36 s36 h36 => ?_)
      obtain ⟨es36, h36⟩ := h36
      have es36 := es36.symm
      subst es36
      refine G_if_eq C 52 42 dX10_odds_39 rfl rfl (fun c39 => ?_) (fun c39 => ?_)
      ·
        have k39 := h36.symm.trans c39
        refine G_ldc2 (v := (-4611686018427387904)) C 55 w_688 dX10_odds_52 rfl ?_
        exact G_lret C dX10_odds_55 (⟨RC_q hR fq, by unfold s_odds; rw [if_neg k7, if_neg k17, if_pos k39]⟩)
      ·
        have k39 := g_neT h36 c39
        refine G_iload C 44 dX10_odds_42 rfl rfl ?_
        refine G_iconst (v := 0) C 45 dX10_odds_44 rfl rfl ?_
        refine G_iconst (v := 1) C 46 dX10_odds_45 rfl rfl ?_
        refine G_calli 49 (G_runS C Kc_X10_within KS_X10_112 (by omega) (c_X10_within 0 q 0 1 s) rfl rfl (Nat.le_of_ble_eq_true rfl) rfl dX10_odds_46) rfl (fun x46 s46 h46 => ?_)
        obtain ⟨es46, h46⟩ := h46
        have es46 := es46.symm
        subst es46
        refine G_if_ne C 56 52 dX10_odds_49 rfl rfl (fun c49 => ?_) (fun c49 => ?_)
        ·
          have k49 := g_neT h46 c49
          refine G_iconst (v := 0) C 57 dX10_odds_56 rfl rfl ?_
          refine G_istore (L' := [some (.ref (e_ad E 0)), some (.int t), some (.int v), some (.int w), some (.int q), some (.int 1), some (.int 0), none]) C 59 dX10_odds_57 rfl (Nat.le_of_ble_eq_true rfl) rfl rfl ?_
          refine G_iconst (v := 0) C 60 dX10_odds_59 rfl rfl ?_
          refine G_istore (L' := [some (.ref (e_ad E 0)), some (.int t), some (.int v), some (.int w), some (.int q), some (.int 1), some (.int 0), some (.int 0)]) C 62 dX10_odds_60 rfl (Nat.le_of_ble_eq_true rfl) rfl rfl ?_
          have L62 : ∀ (f62 : Nat) (k : Nat) (ma y : Int32) (sl62 : gS) (Ema : ma = nI ((x_od TX P n ut w k))) (Ey : y = nI k) (hk : k ≤ uv) (fml62 : cI TX nT n l 45 P sl62) (fql62 : Fr mQ s sl62), uv < k + f62 → GW SC E (gFin SC E (gQl SC (fun r s' => RC TX P B s' ∧ r = s_odds TX P t v w q))) 62 [some (.ref (e_ad E 0)), some (.int t), some (.int v), some (.int w), some (.int q), some (.int 1), some (.int ma), some (.int y)] [] sl62 := by
            intro f62
            induction f62 with
            | zero =>
              intro k ma y sl62 Ema Ey hk fml62 fql62 hf62
              exact absurd hf62 (by omega)
            | succ f62 ih62 =>
              intro k ma y sl62 Ema Ey hk fml62 fql62 hf62
              refine G_iload C 64 dX10_odds_62 rfl rfl ?_
              refine G_iload_n (i := 2) C 65 dX10_odds_64 rfl rfl rfl ?_
              refine G_icmp_ge C 89 68 dX10_odds_65 rfl rfl (fun c65 => ?_) (fun c65 => ?_)
              ·
                have n65 : ¬ k < uv := fun h => c65 ((g_ltN (a := k) (b := uv) (hx := Ey) (hy := euv) (by omega) (by omega)).mpr h)
                refine G_iload C 91 dX10_odds_89 rfl rfl ?_
                refine G_iload_n (i := 2) C 92 dX10_odds_91 rfl rfl rfl ?_
                refine G_iload C 94 dX10_odds_92 rfl rfl ?_
                refine G_calll 97 (G_runS C Kc_X10_lowest KS_X10_208 (by omega) (c_X10_lowest 0 (x_od TX P n ut w k) uv (by have := x_od_r TX P n ut w k; omega) guv (by omega) ma v q Ema euv sl62) rfl rfl (Nat.le_of_ble_eq_true rfl) rfl dX10_odds_94) rfl (fun x94 s94 h94 => ?_)
                obtain ⟨es94, h94⟩ := h94
                have es94 := es94.symm
                subst es94
                exact G_lret C dX10_odds_97 (⟨RC_q hR fql62, by
                    have e : k = uv := by omega
                    subst e
                    unfold s_odds; rw [if_neg k7, if_neg k17, if_neg k39, if_neg k49, hxn, cut, cuv]; exact h94⟩)
              ·
                have n65 : k < uv := (g_ltN (a := k) (b := uv) (hx := Ey) (hy := euv) (by omega) (by omega)).mp c65
                refine G_aload_n (i := 0) C 69 dX10_odds_68 rfl rfl rfl ?_
                refine G_iload_n (i := 1) C 70 dX10_odds_69 rfl rfl rfl ?_
                refine G_iload C 72 dX10_odds_70 rfl rfl ?_
                refine G_iadd C 73 dX10_odds_72 rfl (fun x72 ex72 => ?_)
                have Nx72 : x72 = nI (ut + k) := g_addN ex72 eut Ey
                refine G_calli 76 (G_runV C Kc_X10_criedByLots KV_X10_232 (by omega) (by decide) (eC _ _ _) rfl (c_X10_criedByLots 0 TX nT n l P B sl62 (Rc_q hR fql62) x72 (ut + k) (ut + k + 1) Nx72 (by omega) rfl) rfl rfl rfl (Nat.le_of_ble_eq_true rfl) rfl dX10_odds_73) rfl (fun x73 s73 h73 => ?_)
                have fm_1 : cI TX nT n l 45 P s73 := cI_q fml62 (h73.1)
                have fq_1 : Fr mQ s s73 := Fr.tr fql62 (h73.1)
                refine G_iload_n (i := 3) C 77 dX10_odds_76 rfl rfl rfl ?_
                refine G_icmp_lt C 83 80 dX10_odds_77 rfl rfl (fun c77 => ?_) (fun c77 => ?_)
                ·
                  have hod : x_od TX P n ut w (k + 1) = x_od TX P n ut w k := by rw [x_od, if_pos (by rw [← h73.2.2]; exact c77)]
                  refine G_iinc (w := 1) C 86 dX10_odds_83 rfl rfl rfl rfl (fun x83 ex83 => ?_)
                  have Nx83 : x83 = nI (k + 1) := g_addN ex83 Ey rfl
                  show GW SC E _ 86 [some (.ref (e_ad E 0)), some (.int t), some (.int v), some (.int w), some (.int q), some (.int 1), some (.int ma), some (.int x83)] [] s73
                  refine G_goto C 62 dX10_odds_86 rfl ?_
                  exact ih62 (k + 1) ma x83 s73 (g_cn (a := (x_od TX P n ut w k)) Ema (by first | rfl | omega | (simp only [List.length_cons, List.length_drop]; done) | (simp only [List.length_cons, List.length_drop]; omega))) (g_cn (a := (k + 1)) Nx83 (by first | rfl | omega | (simp only [List.length_cons, List.length_drop]; done) | (simp only [List.length_cons, List.length_drop]; omega))) (by omega) fm_1 fq_1 (by omega)
                ·
                  have hod : x_od TX P n ut w (k + 1) = x_od TX P n ut w k + 1 := by rw [x_od, if_neg (by rw [← h73.2.2]; exact c77)]
                  refine G_iinc (w := 1) C 83 dX10_odds_80 rfl rfl rfl rfl (fun x80 ex80 => ?_)
                  have Nx80 : x80 = nI ((x_od TX P n ut w k) + 1) := g_addN ex80 Ema rfl
                  show GW SC E _ 83 [some (.ref (e_ad E 0)), some (.int t), some (.int v), some (.int w), some (.int q), some (.int 1), some (.int x80), some (.int y)] [] s73
                  refine G_iinc (w := 1) C 86 dX10_odds_83 rfl rfl rfl rfl (fun x83 ex83 => ?_)
                  have Nx83 : x83 = nI (k + 1) := g_addN ex83 Ey rfl
                  show GW SC E _ 86 [some (.ref (e_ad E 0)), some (.int t), some (.int v), some (.int w), some (.int q), some (.int 1), some (.int x80), some (.int x83)] [] s73
                  refine G_goto C 62 dX10_odds_86 rfl ?_
                  exact ih62 (k + 1) x80 x83 s73 (g_cn (a := ((x_od TX P n ut w k) + 1)) Nx80 (by first | rfl | omega | (simp only [List.length_cons, List.length_drop]; done) | (simp only [List.length_cons, List.length_drop]; omega))) (g_cn (a := (k + 1)) Nx83 (by first | rfl | omega | (simp only [List.length_cons, List.length_drop]; done) | (simp only [List.length_cons, List.length_drop]; omega))) (by omega) fm_1 fq_1 (by omega)
          exact L62 (uv + 1) 0 0 0 s (g_cn (a := 0) rfl (by first | rfl | omega)) (g_cn (a := 0) rfl (by first | rfl | omega)) (by omega) fm fq (by omega)
        ·
          have k49 := h46.symm.trans c49
          refine G_ldc2 (v := (-4611686018427387904)) C 55 w_688 dX10_odds_52 rfl ?_
          exact G_lret C dX10_odds_55 (⟨RC_q hR fq, by unfold s_odds; rw [if_neg k7, if_neg k17, if_neg k39, if_pos k49]⟩)
