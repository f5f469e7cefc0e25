theorem dX10_wishersAt_0 : decode cX10_wishersAt 0 = .ok (.aload_n 0, 1) := by decide +kernel
theorem dX10_wishersAt_1 : decode cX10_wishersAt 1 = .ok (.getfield 57, 3) := by decide +kernel
theorem dX10_wishersAt_4 : decode cX10_wishersAt 4 = .ok (.iload_n 1, 1) := by decide +kernel
theorem dX10_wishersAt_5 : decode cX10_wishersAt 5 = .ok (.invokevirtual 168, 3) := by decide +kernel
theorem dX10_wishersAt_8 : decode cX10_wishersAt 8 = .ok (.istore_n 3, 1) := by decide +kernel
theorem dX10_wishersAt_9 : decode cX10_wishersAt 9 = .ok (.iconst 0, 1) := by decide +kernel
theorem dX10_wishersAt_10 : decode cX10_wishersAt 10 = .ok (.istore 4, 2) := by decide +kernel
theorem dX10_wishersAt_12 : decode cX10_wishersAt 12 = .ok (.iconst 0, 1) := by decide +kernel
theorem dX10_wishersAt_13 : decode cX10_wishersAt 13 = .ok (.istore 5, 2) := by decide +kernel
theorem dX10_wishersAt_15 : decode cX10_wishersAt 15 = .ok (.iload 5, 2) := by decide +kernel
theorem dX10_wishersAt_17 : decode cX10_wishersAt 17 = .ok (.aload_n 0, 1) := by decide +kernel
theorem dX10_wishersAt_18 : decode cX10_wishersAt 18 = .ok (.getfield 57, 3) := by decide +kernel
theorem dX10_wishersAt_21 : decode cX10_wishersAt 21 = .ok (.getfield 94, 3) := by decide +kernel
theorem dX10_wishersAt_24 : decode cX10_wishersAt 24 = .ok (.if_icmp .ge 42, 3) := by decide +kernel
theorem dX10_wishersAt_27 : decode cX10_wishersAt 27 = .ok (.iload_n 3, 1) := by decide +kernel
theorem dX10_wishersAt_28 : decode cX10_wishersAt 28 = .ok (.iload 5, 2) := by decide +kernel
theorem dX10_wishersAt_30 : decode cX10_wishersAt 30 = .ok (.invokestatic 199, 3) := by decide +kernel
theorem dX10_wishersAt_33 : decode cX10_wishersAt 33 = .ok (.ifCond .eq 27, 3) := by decide +kernel
theorem dX10_wishersAt_36 : decode cX10_wishersAt 36 = .ok (.aload_n 0, 1) := by decide +kernel
theorem dX10_wishersAt_37 : decode cX10_wishersAt 37 = .ok (.getfield 57, 3) := by decide +kernel
theorem dX10_wishersAt_40 : decode cX10_wishersAt 40 = .ok (.iload 5, 2) := by decide +kernel
theorem dX10_wishersAt_42 : decode cX10_wishersAt 42 = .ok (.iconst 1, 1) := by decide +kernel
theorem dX10_wishersAt_43 : decode cX10_wishersAt 43 = .ok (.iload_n 2, 1) := by decide +kernel
theorem dX10_wishersAt_44 : decode cX10_wishersAt 44 = .ok (.ishl, 1) := by decide +kernel
theorem dX10_wishersAt_45 : decode cX10_wishersAt 45 = .ok (.invokevirtual 156, 3) := by decide +kernel
theorem dX10_wishersAt_48 : decode cX10_wishersAt 48 = .ok (.ifCond .eq 12, 3) := by decide +kernel
theorem dX10_wishersAt_51 : decode cX10_wishersAt 51 = .ok (.iload 4, 2) := by decide +kernel
theorem dX10_wishersAt_53 : decode cX10_wishersAt 53 = .ok (.iconst 1, 1) := by decide +kernel
theorem dX10_wishersAt_54 : decode cX10_wishersAt 54 = .ok (.iload 5, 2) := by decide +kernel
theorem dX10_wishersAt_56 : decode cX10_wishersAt 56 = .ok (.ishl, 1) := by decide +kernel
theorem dX10_wishersAt_57 : decode cX10_wishersAt 57 = .ok (.ior, 1) := by decide +kernel
theorem dX10_wishersAt_58 : decode cX10_wishersAt 58 = .ok (.istore 4, 2) := by decide +kernel
theorem dX10_wishersAt_60 : decode cX10_wishersAt 60 = .ok (.iinc 5 1, 3) := by decide +kernel
theorem dX10_wishersAt_63 : decode cX10_wishersAt 63 = .ok (.goto (-48), 3) := by decide +kernel
theorem dX10_wishersAt_66 : decode cX10_wishersAt 66 = .ok (.iload 4, 2) := by decide +kernel
theorem dX10_wishersAt_68 : decode cX10_wishersAt 68 = .ok (.ireturn, 1) := by decide +kernel
set_option maxHeartbeats 4000000 in
set_option maxRecDepth 100000 in
theorem c_X10_wishersAt (d : Nat) (TX : gTX) (nT n l : Nat) (P s : gS) (hI : cI TX nT n l 45 P s) (c t : Int32) (tt : Nat) (ht : t = nI tt) (htt : tt < 10) : gMt SC yX10_wishersAt cX10_wishersAt 6 (some .int) (d + 8) (fun ad => [.ref (ad 0), .int c, .int t]) s (gQi SC (fun r s' => Fr mQ s s' ∧ r = x_wsh TX P c tt n)) := by
  have hn6 : n ≤ 6 := hI.2.2.1.2.1
  refine gMt_of SC_ok (by decide +kernel) (fun ad => [some (.ref (ad 0)), some (.int c), some (.int t), none, none, none]) (fun _ => rfl) (fun _ => rfl) (fun _ => Nat.le_of_ble_eq_true rfl) (fun E C0 => ?_)
  have C : gCx SC E RX10 cX10_wishersAt 6 (some .int) (d + 8) := C0
  have fm : cI TX nT n l 45 P s := hI
  have fq : Fr mQ s s := Fr.rf
  refine G_aload_n (i := 0) C 1 dX10_wishersAt_0 rfl rfl rfl ?_
  refine X10_57g C 4 dX10_wishersAt_1 rfl ?_
  refine G_iload_n (i := 1) C 5 dX10_wishersAt_4 rfl rfl rfl ?_
  refine G_calli 8 (G_runV C Kc_X9_listenersAt KV_X10_168 (by omega) (lW0 (Or.inl rfl)) (eW _ _ _ (Or.inl rfl)) rfl (c_X9_listenersAt 0 TX nT n l 45 P s fm c) rfl rfl rfl (Nat.le_of_ble_eq_true rfl) rfl dX10_wishersAt_5) rfl (fun x5 s5 h5 => ?_)
  obtain ⟨es5, h5⟩ := h5
  have es5 := es5.symm
  subst es5
  refine G_istore_n (i := 3) (L' := [some (.ref (e_ad E 0)), some (.int c), some (.int t), some (.int x5), none, none]) C 9 dX10_wishersAt_8 rfl rfl (Nat.le_of_ble_eq_true rfl) rfl rfl ?_
  refine G_iconst (v := 0) C 10 dX10_wishersAt_9 rfl rfl ?_
  refine G_istore (L' := [some (.ref (e_ad E 0)), some (.int c), some (.int t), some (.int x5), some (.int 0), none]) C 12 dX10_wishersAt_10 rfl (Nat.le_of_ble_eq_true rfl) rfl rfl ?_
  refine G_iconst (v := 0) C 13 dX10_wishersAt_12 rfl rfl ?_
  refine G_istore (L' := [some (.ref (e_ad E 0)), some (.int c), some (.int t), some (.int x5), some (.int 0), some (.int 0)]) C 15 dX10_wishersAt_13 rfl (Nat.le_of_ble_eq_true rfl) rfl rfl ?_
  have L15 : ∀ (f15 : Nat) (k : Nat) (a y : Int32) (sl15 : gS) (Ey : y = nI k) (hk : k ≤ n) (ha : a = x_wsh TX P c tt k) (fml15 : cI TX nT n l 45 P sl15) (fql15 : Fr mQ s sl15), n < k + f15 → GW SC E (gFin SC E (gQi SC (fun r s' => Fr mQ s s' ∧ r = x_wsh TX P c tt n))) 15 [some (.ref (e_ad E 0)), some (.int c), some (.int t), some (.int x5), some (.int a), some (.int y)] [] sl15 := by
    intro f15
    induction f15 with
    | zero =>
      intro k a y sl15 Ey hk ha fml15 fql15 hf15
      exact absurd hf15 (by omega)
    | succ f15 ih15 =>
      intro k a y sl15 Ey hk ha fml15 fql15 hf15
      refine G_iload C 17 dX10_wishersAt_15 rfl rfl ?_
      refine G_aload_n (i := 0) C 18 dX10_wishersAt_17 rfl rfl rfl ?_
      refine X10_57g C 21 dX10_wishersAt_18 rfl ?_
      refine X10_94g C (Or.inl rfl) 24 dX10_wishersAt_21 rfl (fun x21 ex21 => ?_)
      have Sx21 : x21 = nI n := ex21.trans (cI_n fml15)
      refine G_icmp_ge C 66 27 dX10_wishersAt_24 rfl rfl (fun c24 => ?_) (fun c24 => ?_)
      ·
        have n24 : ¬ k < n := fun h => c24 ((g_ltN (a := k) (b := n) (hx := Ey) (hy := Sx21) (by omega) (by omega)).mpr h)
        refine G_iload C 68 dX10_wishersAt_66 rfl rfl ?_
        exact G_iret C dX10_wishersAt_68 (⟨fql15, by rw [ha, show k = n by omega]⟩)
      ·
        have n24 : k < n := (g_ltN (a := k) (b := n) (hx := Ey) (hy := Sx21) (by omega) (by omega)).mp c24
        refine G_iload_n (i := 3) C 28 dX10_wishersAt_27 rfl rfl rfl ?_
        refine G_iload C 30 dX10_wishersAt_28 rfl rfl ?_
        refine G_calli 33 (G_runS C Kc_X10_isIn KS_X10_199 (by omega) (c_X10_isIn 0 x5 y sl15) rfl rfl (Nat.le_of_ble_eq_true rfl) rfl dX10_wishersAt_30) rfl (fun x30 s30 h30 => ?_)
        obtain ⟨es30, h30⟩ := h30
        have es30 := es30.symm
        subst es30
        have Bx30 : x30 = x_bit x5 y := h30.trans (x_isInE _ _)
        refine G_if_eq C 60 36 dX10_wishersAt_33 rfl rfl (fun c33 => ?_) (fun c33 => ?_)
        ·
          have k33 := h30.symm.trans c33
          refine G_iinc (w := 1) C 63 dX10_wishersAt_60 rfl rfl rfl rfl (fun x60 ex60 => ?_)
          have Nx60 : x60 = nI (k + 1) := g_addN ex60 Ey rfl
          show GW SC E _ 63 [some (.ref (e_ad E 0)), some (.int c), some (.int t), some (.int x5), some (.int a), some (.int x60)] [] sl15
          refine G_goto C 15 dX10_wishersAt_63 rfl ?_
          exact ih15 (k + 1) a x60 sl15 (g_cn (a := (k + 1)) Nx60 (by first | rfl | omega | (simp only [List.length_cons, List.length_drop]; done) | (simp only [List.length_cons, List.length_drop]; omega))) (by omega) (by
                have z : x_bit x5 (nI k) = 0 := by rw [← Ey]; exact Bx30.symm.trans c33
                rw [h5, y_lisBit hn6 (by omega)] at z
                rw [x_wsh]
                by_cases q1 : P 2 k = c
                · rw [if_pos q1, if_pos (Classical.byContradiction fun q2 => z ⟨q1, q2⟩)]; exact ha
                · rw [if_neg q1]; exact ha) fml15 fql15 (by omega)
        ·
          have k33 := g_neT h30 c33
          refine G_aload_n (i := 0) C 37 dX10_wishersAt_36 rfl rfl rfl ?_
          refine X10_57g C 40 dX10_wishersAt_37 rfl ?_
          refine G_iload C 42 dX10_wishersAt_40 rfl rfl ?_
          refine G_iconst (v := 1) C 43 dX10_wishersAt_42 rfl rfl ?_
          refine G_iload_n (i := 2) C 44 dX10_wishersAt_43 rfl rfl rfl ?_
          refine G_ishl C 45 dX10_wishersAt_44 rfl (fun x44 ex44 => ?_)
          refine G_calli 48 (G_runV C Kc_X9_wishedBy KV_X10_156 (by omega) (lW0 (Or.inl rfl)) (eW _ _ _ (Or.inl rfl)) rfl (c_X9_wishedBy 0 TX nT n l 45 P sl15 fml15 y k Ey (by omega) x44) rfl rfl rfl (Nat.le_of_ble_eq_true rfl) rfl dX10_wishersAt_45) rfl (fun x45 s45 h45 => ?_)
          have fm_1 : cI TX nT n l 45 P s45 := cI_q fml15 (h45.1.SQ)
          have fq_1 : Fr mQ s s45 := Fr.tr fql15 (h45.1.SQ)
          refine G_if_eq C 60 51 dX10_wishersAt_48 rfl rfl (fun c48 => ?_) (fun c48 => ?_)
          ·
            refine G_iinc (w := 1) C 63 dX10_wishersAt_60 rfl rfl rfl rfl (fun x60 ex60 => ?_)
            have Nx60 : x60 = nI (k + 1) := g_addN ex60 Ey rfl
            show GW SC E _ 63 [some (.ref (e_ad E 0)), some (.int c), some (.int t), some (.int x5), some (.int a), some (.int x60)] [] s45
            refine G_goto C 15 dX10_wishersAt_63 rfl ?_
            exact ih15 (k + 1) a x60 s45 (g_cn (a := (k + 1)) Nx60 (by first | rfl | omega | (simp only [List.length_cons, List.length_drop]; done) | (simp only [List.length_cons, List.length_drop]; omega))) (by omega) (by
                  have z : ¬ x_bit x5 (nI k) = 0 := by rw [← Ey, ← Bx30]; exact c33
                  rw [h5, y_lisBit hn6 (by omega)] at z
                  have z2 := Classical.not_not.mp z
                  rw [x_wsh, if_pos z2.1, if_neg z2.2, if_pos (by rw [← x_wset_one TX P k htt, ← ht, ← ex44, ← h45.2]; exact c48)]; exact ha) fm_1 fq_1 (by omega)
          ·
            refine G_iload C 53 dX10_wishersAt_51 rfl rfl ?_
            refine G_iconst (v := 1) C 54 dX10_wishersAt_53 rfl rfl ?_
            refine G_iload C 56 dX10_wishersAt_54 rfl rfl ?_
            refine G_ishl C 57 dX10_wishersAt_56 rfl (fun x56 ex56 => ?_)
            refine G_ior C 58 dX10_wishersAt_57 rfl (fun x57 ex57 => ?_)
            refine G_istore (L' := [some (.ref (e_ad E 0)), some (.int c), some (.int t), some (.int x5), some (.int x57), some (.int y)]) C 60 dX10_wishersAt_58 rfl (Nat.le_of_ble_eq_true rfl) rfl rfl ?_
            refine G_iinc (w := 1) C 63 dX10_wishersAt_60 rfl rfl rfl rfl (fun x60 ex60 => ?_)
            have Nx60 : x60 = nI (k + 1) := g_addN ex60 Ey rfl
            show GW SC E _ 63 [some (.ref (e_ad E 0)), some (.int c), some (.int t), some (.int x5), some (.int x57), some (.int x60)] [] s45
            refine G_goto C 15 dX10_wishersAt_63 rfl ?_
            exact ih15 (k + 1) x57 x60 s45 (g_cn (a := (k + 1)) Nx60 (by first | rfl | omega | (simp only [List.length_cons, List.length_drop]; done) | (simp only [List.length_cons, List.length_drop]; omega))) (by omega) (by
                  have z : ¬ x_bit x5 (nI k) = 0 := by rw [← Ey, ← Bx30]; exact c33
                  rw [h5, y_lisBit hn6 (by omega)] at z
                  have z2 := Classical.not_not.mp z
                  rw [x_wsh, if_pos z2.1, if_neg z2.2, if_neg (by rw [← x_wset_one TX P k htt, ← ht, ← ex44, ← h45.2]; exact c48), ex57, ex56, Ey, ha]) fm_1 fq_1 (by omega)
  exact L15 (n + 1) 0 0 0 s (g_cn (a := 0) rfl (by first | rfl | omega)) (by omega) (rfl) fm fq (by omega)
theorem x_wsh1024 (TX : gTX) (P : gS) (c : Int32) (t : Nat) : ∀ k, k ≤ 6 → ∃ m, m < 1024 ∧ x_wsh TX P c t k = nI m := by
  intro k
  induction k with
  | zero => intro _; exact ⟨0, by decide, rfl⟩
  | succ k ih =>
    intro hk
    unfold x_wsh
    split
    · split
      · exact ih (by omega)
      · split
        · exact ih (by omega)
        · exact bt_or1024 (ih (by omega)) (bt_1024p (by omega))
    · exact ih (by omega)
theorem dX10_hush_0 : decode cX10_hush 0 = .ok (.iload_n 1, 1) := by decide +kernel
theorem dX10_hush_1 : decode cX10_hush 1 = .ok (.iconst 0, 1) := by decide +kernel
theorem dX10_hush_2 : decode cX10_hush 2 = .ok (.bipush 8, 2) := by decide +kernel
theorem dX10_hush_4 : decode cX10_hush 4 = .ok (.invokestatic 112, 3) := by decide +kernel
theorem dX10_hush_7 : decode cX10_hush 7 = .ok (.ifCond .ne 6, 3) := by decide +kernel
theorem dX10_hush_10 : decode cX10_hush 10 = .ok (.bipush (-5), 2) := by decide +kernel
theorem dX10_hush_12 : decode cX10_hush 12 = .ok (.ireturn, 1) := by decide +kernel
theorem dX10_hush_13 : decode cX10_hush 13 = .ok (.iload_n 2, 1) := by decide +kernel
theorem dX10_hush_14 : decode cX10_hush 14 = .ok (.iconst 0, 1) := by decide +kernel
theorem dX10_hush_15 : decode cX10_hush 15 = .ok (.bipush 9, 2) := by decide +kernel
theorem dX10_hush_17 : decode cX10_hush 17 = .ok (.invokestatic 112, 3) := by decide +kernel
theorem dX10_hush_20 : decode cX10_hush 20 = .ok (.ifCond .eq 12, 3) := by decide +kernel
theorem dX10_hush_23 : decode cX10_hush 23 = .ok (.iload_n 3, 1) := by decide +kernel
theorem dX10_hush_24 : decode cX10_hush 24 = .ok (.iconst 0, 1) := by decide +kernel
theorem dX10_hush_25 : decode cX10_hush 25 = .ok (.iconst 1, 1) := by decide +kernel
theorem dX10_hush_26 : decode cX10_hush 26 = .ok (.invokestatic 112, 3) := by decide +kernel
theorem dX10_hush_29 : decode cX10_hush 29 = .ok (.ifCond .ne 6, 3) := by decide +kernel
theorem dX10_hush_32 : decode cX10_hush 32 = .ok (.bipush (-7), 2) := by decide +kernel
theorem dX10_hush_34 : decode cX10_hush 34 = .ok (.ireturn, 1) := by decide +kernel
theorem dX10_hush_35 : decode cX10_hush 35 = .ok (.aload_n 0, 1) := by decide +kernel
theorem dX10_hush_36 : decode cX10_hush 36 = .ok (.iload_n 1, 1) := by decide +kernel
theorem dX10_hush_37 : decode cX10_hush 37 = .ok (.iload_n 2, 1) := by decide +kernel
theorem dX10_hush_38 : decode cX10_hush 38 = .ok (.invokevirtual 196, 3) := by decide +kernel
theorem dX10_hush_41 : decode cX10_hush 41 = .ok (.istore 4, 2) := by decide +kernel
theorem dX10_hush_43 : decode cX10_hush 43 = .ok (.aload_n 0, 1) := by decide +kernel
theorem dX10_hush_44 : decode cX10_hush 44 = .ok (.getfield 61, 3) := by decide +kernel
theorem dX10_hush_47 : decode cX10_hush 47 = .ok (.aload_n 0, 1) := by decide +kernel
theorem dX10_hush_48 : decode cX10_hush 48 = .ok (.getfield 57, 3) := by decide +kernel
theorem dX10_hush_51 : decode cX10_hush 51 = .ok (.invokevirtual 174, 3) := by decide +kernel
theorem dX10_hush_54 : decode cX10_hush 54 = .ok (.iconst 0, 1) := by decide +kernel
theorem dX10_hush_55 : decode cX10_hush 55 = .ok (.istore 5, 2) := by decide +kernel
theorem dX10_hush_57 : decode cX10_hush 57 = .ok (.iload 5, 2) := by decide +kernel
theorem dX10_hush_59 : decode cX10_hush 59 = .ok (.aload_n 0, 1) := by decide +kernel
theorem dX10_hush_60 : decode cX10_hush 60 = .ok (.getfield 61, 3) := by decide +kernel
theorem dX10_hush_63 : decode cX10_hush 63 = .ok (.getfield 94, 3) := by decide +kernel
theorem dX10_hush_66 : decode cX10_hush 66 = .ok (.if_icmp .ge 30, 3) := by decide +kernel
theorem dX10_hush_69 : decode cX10_hush 69 = .ok (.iload 4, 2) := by decide +kernel
theorem dX10_hush_71 : decode cX10_hush 71 = .ok (.iload 5, 2) := by decide +kernel
theorem dX10_hush_73 : decode cX10_hush 73 = .ok (.invokestatic 199, 3) := by decide +kernel
theorem dX10_hush_76 : decode cX10_hush 76 = .ok (.ifCond .eq 14, 3) := by decide +kernel
theorem dX10_hush_79 : decode cX10_hush 79 = .ok (.aload_n 0, 1) := by decide +kernel
theorem dX10_hush_80 : decode cX10_hush 80 = .ok (.getfield 61, 3) := by decide +kernel
theorem dX10_hush_83 : decode cX10_hush 83 = .ok (.getfield 193, 3) := by decide +kernel
theorem dX10_hush_86 : decode cX10_hush 86 = .ok (.iload 5, 2) := by decide +kernel
theorem dX10_hush_88 : decode cX10_hush 88 = .ok (.iconst 0, 1) := by decide +kernel
theorem dX10_hush_89 : decode cX10_hush 89 = .ok (.iastore, 1) := by decide +kernel
theorem dX10_hush_90 : decode cX10_hush 90 = .ok (.iinc 5 1, 3) := by decide +kernel
theorem dX10_hush_93 : decode cX10_hush 93 = .ok (.goto (-36), 3) := by decide +kernel
theorem dX10_hush_96 : decode cX10_hush 96 = .ok (.aload_n 0, 1) := by decide +kernel
theorem dX10_hush_97 : decode cX10_hush 97 = .ok (.getfield 61, 3) := by decide +kernel
theorem dX10_hush_100 : decode cX10_hush 100 = .ok (.iload_n 1, 1) := by decide +kernel
theorem dX10_hush_101 : decode cX10_hush 101 = .ok (.iconst 1, 1) := by decide +kernel
theorem dX10_hush_102 : decode cX10_hush 102 = .ok (.iload_n 2, 1) := by decide +kernel
theorem dX10_hush_103 : decode cX10_hush 103 = .ok (.ishl, 1) := by decide +kernel
theorem dX10_hush_104 : decode cX10_hush 104 = .ok (.invokevirtual 128, 3) := by decide +kernel
theorem dX10_hush_107 : decode cX10_hush 107 = .ok (.ifCond .ne 5, 3) := by decide +kernel
theorem dX10_hush_110 : decode cX10_hush 110 = .ok (.iconst (-1), 1) := by decide +kernel
theorem dX10_hush_111 : decode cX10_hush 111 = .ok (.ireturn, 1) := by decide +kernel
theorem dX10_hush_112 : decode cX10_hush 112 = .ok (.iload_n 3, 1) := by decide +kernel
theorem dX10_hush_113 : decode cX10_hush 113 = .ok (.ifCond .ne 8, 3) := by decide +kernel
theorem dX10_hush_116 : decode cX10_hush 116 = .ok (.iload 4, 2) := by decide +kernel
theorem dX10_hush_118 : decode cX10_hush 118 = .ok (.goto 8, 3) := by decide +kernel
theorem dX10_hush_121 : decode cX10_hush 121 = .ok (.iload 4, 2) := by decide +kernel
theorem dX10_hush_123 : decode cX10_hush 123 = .ok (.invokestatic 103, 3) := by decide +kernel
theorem dX10_hush_126 : decode cX10_hush 126 = .ok (.ireturn, 1) := by decide +kernel
set_option maxHeartbeats 4000000 in
set_option maxRecDepth 100000 in
theorem c_X10_hush (d : Nat) (TX : gTX) (P B s : gS) (hR0 : RC TX P B s) (c t q : Int32) : gMt SC yX10_hush cX10_hush 6 (some .int) (d + 9) (fun ad => [.ref (ad 0), .int c, .int t, .int q]) s (gQi SC (fun r s' => RC TX P B s' ∧ r = s_hush TX P c t q)) := by
  obtain ⟨nT, n, l, hR⟩ := hR0
  have hI := hR.1
  have hn6 : n ≤ 6 := hI.2.2.1.2.1
  have hl6 : l < 6 := cI_l6 hI
  have hxn : x_n P = n := x_nOf hI.2.2.1.1 hn6
  have hbI := hR.2.2
  refine gMt_of SC_ok (by decide +kernel) (fun ad => [some (.ref (ad 0)), some (.int c), some (.int t), some (.int q), none, none]) (fun _ => rfl) (fun _ => rfl) (fun _ => Nat.le_of_ble_eq_true rfl) (fun E C0 => ?_)
  have C : gCx SC E RX10 cX10_hush 6 (some .int) (d + 9) := C0
  have fm : cI TX nT n l 45 P s := hI
  have fq : Fr mQ s s := Fr.rf
  refine G_iload_n (i := 1) C 1 dX10_hush_0 rfl rfl rfl ?_
  refine G_iconst (v := 0) C 2 dX10_hush_1 rfl rfl ?_
  refine G_bipush (v := 8) C 4 dX10_hush_2 rfl rfl ?_
  refine G_calli 7 (G_runS C Kc_X10_within KS_X10_112 (by omega) (c_X10_within 0 c 0 8 s) rfl rfl (Nat.le_of_ble_eq_true rfl) rfl dX10_hush_4) rfl (fun x4 s4 h4 => ?_)
  obtain ⟨es4, h4⟩ := h4
  have es4 := es4.symm
  subst es4
  refine G_if_ne C 13 10 dX10_hush_7 rfl rfl (fun c7 => ?_) (fun c7 => ?_)
  ·
    have k7 := g_neT h4 c7
    refine G_iload_n (i := 2) C 14 dX10_hush_13 rfl rfl rfl ?_
    refine G_iconst (v := 0) C 15 dX10_hush_14 rfl rfl ?_
    refine G_bipush (v := 9) C 17 dX10_hush_15 rfl rfl ?_
    refine G_calli 20 (G_runS C Kc_X10_within KS_X10_112 (by omega) (c_X10_within 0 t 0 9 s) rfl rfl (Nat.le_of_ble_eq_true rfl) rfl dX10_hush_17) rfl (fun x17 s17 h17 => ?_)
    obtain ⟨es17, h17⟩ := h17
    have es17 := es17.symm
    subst es17
    refine G_if_eq C 32 23 dX10_hush_20 rfl rfl (fun c20 => ?_) (fun c20 => ?_)
    ·
      have k20 := h17.symm.trans c20
      refine G_bipush (v := (-7)) C 34 dX10_hush_32 rfl rfl ?_
      exact G_iret C dX10_hush_34 (⟨RC_q hR fq, by unfold s_hush; rw [if_neg k7, if_pos k20]⟩)
    ·
      have k20 := g_neT h17 c20
      obtain ⟨ut, hut, eut⟩ := x_inR (b := 9) k20 rfl (by decide)
      have cut : t.toNatClampNeg = ut := by rw [eut, nI_clamp (by omega)]
      refine G_iload_n (i := 3) C 24 dX10_hush_23 rfl rfl rfl ?_
      refine G_iconst (v := 0) C 25 dX10_hush_24 rfl rfl ?_
      refine G_iconst (v := 1) C 26 dX10_hush_25 rfl rfl ?_
      refine G_calli 29 (G_runS C Kc_X10_within KS_X10_112 (by omega) (c_X10_within 0 q 0 1 s) rfl rfl (Nat.le_of_ble_eq_true rfl) rfl dX10_hush_26) rfl (fun x26 s26 h26 => ?_)
      obtain ⟨es26, h26⟩ := h26
      have es26 := es26.symm
      subst es26
      refine G_if_ne C 35 32 dX10_hush_29 rfl rfl (fun c29 => ?_) (fun c29 => ?_)
      ·
        have k29 := g_neT h26 c29
        refine G_aload_n (i := 0) C 36 dX10_hush_35 rfl rfl rfl ?_
        refine G_iload_n (i := 1) C 37 dX10_hush_36 rfl rfl rfl ?_
        refine G_iload_n (i := 2) C 38 dX10_hush_37 rfl rfl rfl ?_
        refine G_calli 41 (G_runV C Kc_X10_wishersAt KV_X10_196 (by omega) (by decide) (eC _ _ _) rfl (c_X10_wishersAt 0 TX nT n l P s fm c t ut eut (by omega)) rfl rfl rfl (Nat.le_of_ble_eq_true rfl) rfl dX10_hush_38) rfl (fun x38 s38 h38 => ?_)
        have fm_1 : cI TX nT n l 45 P s38 := cI_q fm (h38.1)
        have fq_1 : Fr mQ s s38 := Fr.tr fq (h38.1)
        obtain ⟨mw, hmw, emw⟩ : ∃ m, m < 1024 ∧ x38 = nI m := by rw [h38.2]; exact x_wsh1024 TX P c ut n hn6
        refine G_istore (L' := [some (.ref (e_ad E 0)), some (.int c), some (.int t), some (.int q), some (.int x38), none]) C 43 dX10_hush_41 rfl (Nat.le_of_ble_eq_true rfl) rfl rfl ?_
        refine G_aload_n (i := 0) C 44 dX10_hush_43 rfl rfl rfl ?_
        refine X10_61g C 47 dX10_hush_44 rfl ?_
        refine G_aload_n (i := 0) C 48 dX10_hush_47 rfl rfl rfl ?_
        refine X10_57g C 51 dX10_hush_48 rfl ?_
        refine G_callv 54 (G_runV C Kc_X9_become KV_X10_174 (by omega) (lW0 (Or.inr (Or.inl rfl))) (eW _ _ _ (Or.inr (Or.inl rfl))) rfl (c_X9_become 0 54 45 (Or.inr (Or.inl rfl)) (Or.inl rfl) (by decide) s38) rfl rfl rfl (Nat.le_of_ble_eq_true rfl) rfl dX10_hush_51) rfl (fun s51 h51 => ?_)
        have fm_2 : cI TX nT n l 45 P s51 := cI_q fm_1 (h51.1.UQ)
        have fq_2 : Fr mQ s s51 := Fr.tr fq_1 (h51.1.UQ)
        have i_1 : cI TX nT n l 54 P s51 := cI_bec fm_2 h51.1 h51.2
        refine G_iconst (v := 0) C 55 dX10_hush_54 rfl rfl ?_
        refine G_istore (L' := [some (.ref (e_ad E 0)), some (.int c), some (.int t), some (.int q), some (.int x38), some (.int 0)]) C 57 dX10_hush_55 rfl (Nat.le_of_ble_eq_true rfl) rfl rfl ?_
        have L57 : ∀ (f57 : Nat) (k : Nat) (y : Int32) (sl57 : gS) (Ey : y = nI k) (hk : k ≤ n) (fml57 : cI TX nT n l 45 P sl57) (fql57 : Fr mQ s sl57) (il57 : cI TX nT n l 54 (x_low P x38 k) sl57), n < k + f57 → GW SC E (gFin SC E (gQi SC (fun r s' => RC TX P B s' ∧ r = s_hush TX P c t q))) 57 [some (.ref (e_ad E 0)), some (.int c), some (.int t), some (.int q), some (.int x38), some (.int y)] [] sl57 := by
          intro f57
          induction f57 with
          | zero =>
            intro k y sl57 Ey hk fml57 fql57 il57 hf57
            exact absurd hf57 (by omega)
          | succ f57 ih57 =>
            intro k y sl57 Ey hk fml57 fql57 il57 hf57
            refine G_iload C 59 dX10_hush_57 rfl rfl ?_
            refine G_aload_n (i := 0) C 60 dX10_hush_59 rfl rfl rfl ?_
            refine X10_61g C 63 dX10_hush_60 rfl ?_
            refine X10_94g C (Or.inr (Or.inl rfl)) 66 dX10_hush_63 rfl (fun x63 ex63 => ?_)
            have Sx63 : x63 = nI n := ex63.trans (cI_n il57)
            refine G_icmp_ge C 96 69 dX10_hush_66 rfl rfl (fun c66 => ?_) (fun c66 => ?_)
            ·
              have n66 : ¬ k < n := fun h => c66 ((g_ltN (a := k) (b := n) (hx := Ey) (hy := Sx63) (by omega) (by omega)).mpr h)
              refine G_aload_n (i := 0) C 97 dX10_hush_96 rfl rfl rfl ?_
              refine X10_61g C 100 dX10_hush_97 rfl ?_
              refine G_iload_n (i := 1) C 101 dX10_hush_100 rfl rfl rfl ?_
              refine G_iconst (v := 1) C 102 dX10_hush_101 rfl rfl ?_
              refine G_iload_n (i := 2) C 103 dX10_hush_102 rfl rfl rfl ?_
              refine G_ishl C 104 dX10_hush_103 rfl (fun x103 ex103 => ?_)
              refine G_calli 107 (G_runV C Kc_X9_mayAt KV_X10_128 (by omega) (lW0 (Or.inr (Or.inl rfl))) (eW _ _ _ (Or.inr (Or.inl rfl))) rfl (c_X9_mayAt 0 TX nT n l 54 (x_low P x38 k) sl57 il57 c x103 (by rw [ex103, eut]; exact bt_1024p (by omega))) rfl rfl rfl (Nat.le_of_ble_eq_true rfl) rfl dX10_hush_104) rfl (fun x104 s104 h104 => ?_)
              have fm_3 : cI TX nT n l 45 P s104 := cI_q fml57 (h104.1.SQ)
              have fq_3 : Fr mQ s s104 := Fr.tr fql57 (h104.1.SQ)
              have i_2 : cI TX nT n l 54 (x_low P x38 k) s104 := cI_fr il57 h104.1
              refine G_if_ne C 112 110 dX10_hush_107 rfl rfl (fun c107 => ?_) (fun c107 => ?_)
              ·
                refine G_iload_n (i := 3) C 113 dX10_hush_112 rfl rfl rfl ?_
                refine G_if_ne C 121 116 dX10_hush_113 rfl rfl (fun c113 => ?_) (fun c113 => ?_)
                ·
                  refine G_iload C 123 dX10_hush_121 rfl rfl ?_
                  refine G_calli 126 (G_runS C Kc_J6_bitCount_0f7a4 KS_X10_103 (by omega) (c_J6_bitCount_0f7a4 0 mw (by omega) x38 emw s104) rfl rfl (Nat.le_of_ble_eq_true rfl) rfl dX10_hush_123) rfl (fun x123 s123 h123 => ?_)
                  obtain ⟨es123, h123⟩ := h123
                  have es123 := es123.symm
                  subst es123
                  have em : (x104 = 0) = (x_may TX (x_low P (x_wsh TX P c ut n) n) c ut = 0) := by
                    rw [h104.2, ex103, eut, ← h38.2, show n = k by omega]
                    exact propext (x_mays_one TX _ c (by omega))
                  exact G_iret C dX10_hush_126 (⟨RC_q hR fq_3, by unfold s_hush; rw [if_neg k7, if_neg k20, if_neg k29, cut, hxn, if_neg (fun z => c107 (em.symm ▸ z)), if_neg c113, ← h38.2]; exact h123⟩)
                ·
                  refine G_iload C 118 dX10_hush_116 rfl rfl ?_
                  refine G_goto C 126 dX10_hush_118 rfl ?_
                  have em : (x104 = 0) = (x_may TX (x_low P (x_wsh TX P c ut n) n) c ut = 0) := by
                    rw [h104.2, ex103, eut, ← h38.2, show n = k by omega]
                    exact propext (x_mays_one TX _ c (by omega))
                  exact G_iret C dX10_hush_126 (⟨RC_q hR fq_3, by unfold s_hush; rw [if_neg k7, if_neg k20, if_neg k29, cut, hxn, if_neg (fun z => c107 (em.symm ▸ z)), if_pos c113]; exact h38.2⟩)
              ·
                refine G_iconst (v := (-1)) C 111 dX10_hush_110 rfl rfl ?_
                have em : (x104 = 0) = (x_may TX (x_low P (x_wsh TX P c ut n) n) c ut = 0) := by
                  rw [h104.2, ex103, eut, ← h38.2, show n = k by omega]
                  exact propext (x_mays_one TX _ c (by omega))
                exact G_iret C dX10_hush_111 (⟨RC_q hR fq_3, by unfold s_hush; rw [if_neg k7, if_neg k20, if_neg k29, cut, hxn, if_pos (em ▸ c107)]⟩)
            ·
              have n66 : k < n := (g_ltN (a := k) (b := n) (hx := Ey) (hy := Sx63) (by omega) (by omega)).mp c66
              refine G_iload C 71 dX10_hush_69 rfl rfl ?_
              refine G_iload C 73 dX10_hush_71 rfl rfl ?_
              refine G_calli 76 (G_runS C Kc_X10_isIn KS_X10_199 (by omega) (c_X10_isIn 0 x38 y sl57) rfl rfl (Nat.le_of_ble_eq_true rfl) rfl dX10_hush_73) rfl (fun x73 s73 h73 => ?_)
              obtain ⟨es73, h73⟩ := h73
              have es73 := es73.symm
              subst es73
              have Bx73 : x73 = x_bit x38 y := h73.trans (x_isInE _ _)
              refine G_if_eq C 90 79 dX10_hush_76 rfl rfl (fun c76 => ?_) (fun c76 => ?_)
              ·
                have k76 := h73.symm.trans c76
                refine G_iinc (w := 1) C 93 dX10_hush_90 rfl rfl rfl rfl (fun x90 ex90 => ?_)
                have Nx90 : x90 = nI (k + 1) := g_addN ex90 Ey rfl
                show GW SC E _ 93 [some (.ref (e_ad E 0)), some (.int c), some (.int t), some (.int q), some (.int x38), some (.int x90)] [] sl57
                refine G_goto C 57 dX10_hush_93 rfl ?_
                exact ih57 (k + 1) x90 sl57 (g_cn (a := (k + 1)) Nx90 (by first | rfl | omega | (simp only [List.length_cons, List.length_drop]; done) | (simp only [List.length_cons, List.length_drop]; omega))) (by omega) fml57 fql57 ((by rw [x_low, if_pos (by rw [← Ey, ← Bx73]; exact c76)]; exact il57)) (by omega)
              ·
                have k76 := g_neT h73 c76
                refine G_aload_n (i := 0) C 80 dX10_hush_79 rfl rfl rfl ?_
                refine X10_61g C 83 dX10_hush_80 rfl ?_
                refine X10_193g C (Or.inr (Or.inl rfl)) 86 dX10_hush_83 rfl ?_
                refine G_iload C 88 dX10_hush_86 rfl rfl ?_
                refine G_iconst (v := 0) C 89 dX10_hush_88 rfl rfl ?_
                refine G_iast (n := 6) C 90 (lW (Or.inr (Or.inl rfl)) (by decide)) (fun σ => eW5 _ _ σ (Or.inr (Or.inl rfl))) (k) Ey (by omega) (by decide) (Nat.le_of_eq (nWi (Or.inr (Or.inl rfl)) (by decide) (by decide)).symm) dX10_hush_89 rfl (fun s89 es89 => ?_)
                have fm_3 : cI TX nT n l 45 P s89 := cI_q fml57 (Fr.up es89 (mQ_w (by decide)))
                have fq_3 : Fr mQ s s89 := Fr.tr fql57 (Fr.up es89 (mQ_w (by decide)))
                have i_2 : cI TX nT n l 54 (x_low P x38 (k + 1)) s89 := by
                        have z := cI_up5 il57 es89
                        rw [x_low, if_neg (by rw [← Ey, ← Bx73]; exact c76)]
                        exact z
                refine G_iinc (w := 1) C 93 dX10_hush_90 rfl rfl rfl rfl (fun x90 ex90 => ?_)
                have Nx90 : x90 = nI (k + 1) := g_addN ex90 Ey rfl
                show GW SC E _ 93 [some (.ref (e_ad E 0)), some (.int c), some (.int t), some (.int q), some (.int x38), some (.int x90)] [] s89
                refine G_goto C 57 dX10_hush_93 rfl ?_
                exact ih57 (k + 1) x90 s89 (g_cn (a := (k + 1)) Nx90 (by first | rfl | omega | (simp only [List.length_cons, List.length_drop]; done) | (simp only [List.length_cons, List.length_drop]; omega))) (by omega) fm_3 fq_3 (i_2) (by omega)
        exact L57 (n + 1) 0 0 s51 (g_cn (a := 0) rfl (by first | rfl | omega)) (by omega) fm_2 fq_2 (i_1) (by omega)
      ·
        have k29 := h26.symm.trans c29
        refine G_bipush (v := (-7)) C 34 dX10_hush_32 rfl rfl ?_
        exact G_iret C dX10_hush_34 (⟨RC_q hR fq, by unfold s_hush; rw [if_neg k7, if_neg k20, if_pos k29]⟩)
  ·
    have k7 := h4.symm.trans c7
    refine G_bipush (v := (-5)) C 12 dX10_hush_10 rfl rfl ?_
    exact G_iret C dX10_hush_12 (⟨RC_q hR fq, by unfold s_hush; rw [if_pos k7]⟩)
theorem dX10_mayAtAny_0 : decode cX10_mayAtAny 0 = .ok (.iconst 0, 1) := by decide +kernel
theorem dX10_mayAtAny_1 : decode cX10_mayAtAny 1 = .ok (.istore_n 2, 1) := by decide +kernel
theorem dX10_mayAtAny_2 : decode cX10_mayAtAny 2 = .ok (.iconst 0, 1) := by decide +kernel
theorem dX10_mayAtAny_3 : decode cX10_mayAtAny 3 = .ok (.istore_n 3, 1) := by decide +kernel
theorem dX10_mayAtAny_4 : decode cX10_mayAtAny 4 = .ok (.iload_n 3, 1) := by decide +kernel
theorem dX10_mayAtAny_5 : decode cX10_mayAtAny 5 = .ok (.bipush 9, 2) := by decide +kernel
theorem dX10_mayAtAny_7 : decode cX10_mayAtAny 7 = .ok (.if_icmp .ge 26, 3) := by decide +kernel
theorem dX10_mayAtAny_10 : decode cX10_mayAtAny 10 = .ok (.iload_n 1, 1) := by decide +kernel
theorem dX10_mayAtAny_11 : decode cX10_mayAtAny 11 = .ok (.iload_n 3, 1) := by decide +kernel
theorem dX10_mayAtAny_12 : decode cX10_mayAtAny 12 = .ok (.invokestatic 199, 3) := by decide +kernel
theorem dX10_mayAtAny_15 : decode cX10_mayAtAny 15 = .ok (.ifCond .eq 12, 3) := by decide +kernel
theorem dX10_mayAtAny_18 : decode cX10_mayAtAny 18 = .ok (.iload_n 2, 1) := by decide +kernel
theorem dX10_mayAtAny_19 : decode cX10_mayAtAny 19 = .ok (.aload_n 0, 1) := by decide +kernel
theorem dX10_mayAtAny_20 : decode cX10_mayAtAny 20 = .ok (.getfield 28, 3) := by decide +kernel
theorem dX10_mayAtAny_23 : decode cX10_mayAtAny 23 = .ok (.iload_n 3, 1) := by decide +kernel
theorem dX10_mayAtAny_24 : decode cX10_mayAtAny 24 = .ok (.iaload, 1) := by decide +kernel
theorem dX10_mayAtAny_25 : decode cX10_mayAtAny 25 = .ok (.ior, 1) := by decide +kernel
theorem dX10_mayAtAny_26 : decode cX10_mayAtAny 26 = .ok (.istore_n 2, 1) := by decide +kernel
theorem dX10_mayAtAny_27 : decode cX10_mayAtAny 27 = .ok (.iinc 3 1, 3) := by decide +kernel
theorem dX10_mayAtAny_30 : decode cX10_mayAtAny 30 = .ok (.goto (-26), 3) := by decide +kernel
theorem dX10_mayAtAny_33 : decode cX10_mayAtAny 33 = .ok (.iload_n 2, 1) := by decide +kernel
theorem dX10_mayAtAny_34 : decode cX10_mayAtAny 34 = .ok (.ireturn, 1) := by decide +kernel
set_option maxHeartbeats 4000000 in
set_option maxRecDepth 100000 in
theorem c_X10_mayAtAny (d : Nat) (T : Nat → Int32) (s : gS) (hT : ∀ j, j < 9 → s 5 j = T j) (v : Int32) : gMt SC yX10_mayAtAny cX10_mayAtAny 4 (some .int) (d + 2) (fun ad => [.ref (ad 0), .int v]) s (gQi SC (fun r s' => s' = s ∧ r = x_tb T v 9)) := by
  refine gMt_of SC_ok (by decide +kernel) (fun ad => [some (.ref (ad 0)), some (.int v), none, none]) (fun _ => rfl) (fun _ => rfl) (fun _ => Nat.le_of_ble_eq_true rfl) (fun E C0 => ?_)
  have C : gCx SC E RX10 cX10_mayAtAny 4 (some .int) (d + 2) := C0
  refine G_iconst (v := 0) C 1 dX10_mayAtAny_0 rfl rfl ?_
  refine G_istore_n (i := 2) (L' := [some (.ref (e_ad E 0)), some (.int v), some (.int 0), none]) C 2 dX10_mayAtAny_1 rfl rfl (Nat.le_of_ble_eq_true rfl) rfl rfl ?_
  refine G_iconst (v := 0) C 3 dX10_mayAtAny_2 rfl rfl ?_
  refine G_istore_n (i := 3) (L' := [some (.ref (e_ad E 0)), some (.int v), some (.int 0), some (.int 0)]) C 4 dX10_mayAtAny_3 rfl rfl (Nat.le_of_ble_eq_true rfl) rfl rfl ?_
  have L4 : ∀ (f4 : Nat) (k : Nat) (a y : Int32) (Ey : y = nI k) (hk : k ≤ 9) (ha : a = x_tb T v k), 9 < k + f4 → GW SC E (gFin SC E (gQi SC (fun r s' => s' = s ∧ r = x_tb T v 9))) 4 [some (.ref (e_ad E 0)), some (.int v), some (.int a), some (.int y)] [] s := by
    intro f4
    induction f4 with
    | zero =>
      intro k a y Ey hk ha hf4
      exact absurd hf4 (by omega)
    | succ f4 ih4 =>
      intro k a y Ey hk ha hf4
      refine G_iload_n (i := 3) C 5 dX10_mayAtAny_4 rfl rfl rfl ?_
      refine G_bipush (v := 9) C 7 dX10_mayAtAny_5 rfl rfl ?_
      refine G_icmp_ge C 33 10 dX10_mayAtAny_7 rfl rfl (fun c7 => ?_) (fun c7 => ?_)
      ·
        have n7 : ¬ k < 9 := fun h => c7 ((g_ltN (a := k) (b := 9) (hx := Ey) (hy := rfl) (by omega) (by omega)).mpr h)
        refine G_iload_n (i := 2) C 34 dX10_mayAtAny_33 rfl rfl rfl ?_
        exact G_iret C dX10_mayAtAny_34 (⟨rfl, by rw [ha, show k = 9 by omega]⟩)
      ·
        have n7 : k < 9 := (g_ltN (a := k) (b := 9) (hx := Ey) (hy := rfl) (by omega) (by omega)).mp c7
        refine G_iload_n (i := 1) C 11 dX10_mayAtAny_10 rfl rfl rfl ?_
        refine G_iload_n (i := 3) C 12 dX10_mayAtAny_11 rfl rfl rfl ?_
        refine G_calli 15 (G_runS C Kc_X10_isIn KS_X10_199 (by omega) (c_X10_isIn 0 v y s) rfl rfl (Nat.le_of_ble_eq_true rfl) rfl dX10_mayAtAny_12) rfl (fun x12 s12 h12 => ?_)
        obtain ⟨es12, h12⟩ := h12
        have es12 := es12.symm
        subst es12
        have Bx12 : x12 = x_bit v y := h12.trans (x_isInE _ _)
        refine G_if_eq C 27 18 dX10_mayAtAny_15 rfl rfl (fun c15 => ?_) (fun c15 => ?_)
        ·
          have k15 := h12.symm.trans c15
          refine G_iinc (w := 1) C 30 dX10_mayAtAny_27 rfl rfl rfl rfl (fun x27 ex27 => ?_)
          have Nx27 : x27 = nI (k + 1) := g_addN ex27 Ey rfl
          show GW SC E _ 30 [some (.ref (e_ad E 0)), some (.int v), some (.int a), some (.int x27)] [] s
          refine G_goto C 4 dX10_mayAtAny_30 rfl ?_
          exact ih4 (k + 1) a x27  (g_cn (a := (k + 1)) Nx27 (by first | rfl | omega | (simp only [List.length_cons, List.length_drop]; done) | (simp only [List.length_cons, List.length_drop]; omega))) (by omega) (by rw [x_tb, if_pos (by rw [← Ey, ← Bx12]; exact c15), ha]) (by omega)
        ·
          have k15 := g_neT h12 c15
          refine G_iload_n (i := 2) C 19 dX10_mayAtAny_18 rfl rfl rfl ?_
          refine G_aload_n (i := 0) C 20 dX10_mayAtAny_19 rfl rfl rfl ?_
          refine X10_28g C 23 dX10_mayAtAny_20 rfl ?_
          refine G_iload_n (i := 3) C 24 dX10_mayAtAny_23 rfl rfl rfl ?_
          refine G_iald (n := 9) C 25 (by decide) (eMa _ _ _) (k) Ey (by omega) (by decide) dX10_mayAtAny_24 rfl (fun x24 ex24 => ?_)
          have Sx24 : x24 = T k := ex24.trans (hT _ (by omega))
          refine G_ior C 26 dX10_mayAtAny_25 rfl (fun x25 ex25 => ?_)
          refine G_istore_n (i := 2) (L' := [some (.ref (e_ad E 0)), some (.int v), some (.int x25), some (.int y)]) C 27 dX10_mayAtAny_26 rfl rfl (Nat.le_of_ble_eq_true rfl) rfl rfl ?_
          refine G_iinc (w := 1) C 30 dX10_mayAtAny_27 rfl rfl rfl rfl (fun x27 ex27 => ?_)
          have Nx27 : x27 = nI (k + 1) := g_addN ex27 Ey rfl
          show GW SC E _ 30 [some (.ref (e_ad E 0)), some (.int v), some (.int x25), some (.int x27)] [] s
          refine G_goto C 4 dX10_mayAtAny_30 rfl ?_
          exact ih4 (k + 1) x25 x27  (g_cn (a := (k + 1)) Nx27 (by first | rfl | omega | (simp only [List.length_cons, List.length_drop]; done) | (simp only [List.length_cons, List.length_drop]; omega))) (by omega) (by rw [x_tb, if_neg (by rw [← Ey, ← Bx12]; exact c15), ex25, Sx24, ha]) (by omega)
  exact L4 (9 + 1) 0 0 0  (g_cn (a := 0) rfl (by first | rfl | omega)) (by omega) (rfl) (by omega)
theorem dX10_round_0 : decode cX10_round 0 = .ok (.iload_n 1, 1) := by decide +kernel
theorem dX10_round_1 : decode cX10_round 1 = .ok (.iconst 0, 1) := by decide +kernel
theorem dX10_round_2 : decode cX10_round 2 = .ok (.iconst 2, 1) := by decide +kernel
theorem dX10_round_3 : decode cX10_round 3 = .ok (.invokestatic 112, 3) := by decide +kernel
theorem dX10_round_6 : decode cX10_round 6 = .ok (.ifCond .ne 6, 3) := by decide +kernel
theorem dX10_round_9 : decode cX10_round 9 = .ok (.bipush (-2), 2) := by decide +kernel
theorem dX10_round_11 : decode cX10_round 11 = .ok (.ireturn, 1) := by decide +kernel
theorem dX10_round_12 : decode cX10_round 12 = .ok (.iconst 0, 1) := by decide +kernel
theorem dX10_round_13 : decode cX10_round 13 = .ok (.istore_n 2, 1) := by decide +kernel
theorem dX10_round_14 : decode cX10_round 14 = .ok (.iconst 0, 1) := by decide +kernel
theorem dX10_round_15 : decode cX10_round 15 = .ok (.istore_n 3, 1) := by decide +kernel
theorem dX10_round_16 : decode cX10_round 16 = .ok (.iload_n 3, 1) := by decide +kernel
theorem dX10_round_17 : decode cX10_round 17 = .ok (.bipush 9, 2) := by decide +kernel
theorem dX10_round_19 : decode cX10_round 19 = .ok (.if_icmp .ge 39, 3) := by decide +kernel
theorem dX10_round_22 : decode cX10_round 22 = .ok (.aload_n 0, 1) := by decide +kernel
theorem dX10_round_23 : decode cX10_round 23 = .ok (.getfield 28, 3) := by decide +kernel
theorem dX10_round_26 : decode cX10_round 26 = .ok (.iload_n 3, 1) := by decide +kernel
theorem dX10_round_27 : decode cX10_round 27 = .ok (.aload_n 0, 1) := by decide +kernel
theorem dX10_round_28 : decode cX10_round 28 = .ok (.getfield 57, 3) := by decide +kernel
theorem dX10_round_31 : decode cX10_round 31 = .ok (.iload_n 3, 1) := by decide +kernel
theorem dX10_round_32 : decode cX10_round 32 = .ok (.aload_n 0, 1) := by decide +kernel
theorem dX10_round_33 : decode cX10_round 33 = .ok (.getfield 57, 3) := by decide +kernel
theorem dX10_round_36 : decode cX10_round 36 = .ok (.getfield 100, 3) := by decide +kernel
theorem dX10_round_39 : decode cX10_round 39 = .ok (.invokevirtual 128, 3) := by decide +kernel
theorem dX10_round_42 : decode cX10_round 42 = .ok (.iastore, 1) := by decide +kernel
theorem dX10_round_43 : decode cX10_round 43 = .ok (.iload_n 2, 1) := by decide +kernel
theorem dX10_round_44 : decode cX10_round 44 = .ok (.aload_n 0, 1) := by decide +kernel
theorem dX10_round_45 : decode cX10_round 45 = .ok (.getfield 28, 3) := by decide +kernel
theorem dX10_round_48 : decode cX10_round 48 = .ok (.iload_n 3, 1) := by decide +kernel
theorem dX10_round_49 : decode cX10_round 49 = .ok (.iaload, 1) := by decide +kernel
theorem dX10_round_50 : decode cX10_round 50 = .ok (.ior, 1) := by decide +kernel
theorem dX10_round_51 : decode cX10_round 51 = .ok (.istore_n 2, 1) := by decide +kernel
theorem dX10_round_52 : decode cX10_round 52 = .ok (.iinc 3 1, 3) := by decide +kernel
theorem dX10_round_55 : decode cX10_round 55 = .ok (.goto (-39), 3) := by decide +kernel
theorem dX10_round_58 : decode cX10_round 58 = .ok (.iload_n 1, 1) := by decide +kernel
theorem dX10_round_59 : decode cX10_round 59 = .ok (.iconst 2, 1) := by decide +kernel
theorem dX10_round_60 : decode cX10_round 60 = .ok (.if_icmp .ne 15, 3) := by decide +kernel
theorem dX10_round_63 : decode cX10_round 63 = .ok (.aload_n 0, 1) := by decide +kernel
theorem dX10_round_64 : decode cX10_round 64 = .ok (.getfield 57, 3) := by decide +kernel
theorem dX10_round_67 : decode cX10_round 67 = .ok (.getfield 100, 3) := by decide +kernel
theorem dX10_round_70 : decode cX10_round 70 = .ok (.iload_n 2, 1) := by decide +kernel
theorem dX10_round_71 : decode cX10_round 71 = .ok (.iconst (-1), 1) := by decide +kernel
theorem dX10_round_72 : decode cX10_round 72 = .ok (.ixor, 1) := by decide +kernel
theorem dX10_round_73 : decode cX10_round 73 = .ok (.iand, 1) := by decide +kernel
theorem dX10_round_74 : decode cX10_round 74 = .ok (.ireturn, 1) := by decide +kernel
theorem dX10_round_75 : decode cX10_round 75 = .ok (.sipush 511, 3) := by decide +kernel
theorem dX10_round_78 : decode cX10_round 78 = .ok (.istore_n 3, 1) := by decide +kernel
theorem dX10_round_79 : decode cX10_round 79 = .ok (.iload_n 3, 1) := by decide +kernel
theorem dX10_round_80 : decode cX10_round 80 = .ok (.iconst 1, 1) := by decide +kernel
theorem dX10_round_81 : decode cX10_round 81 = .ok (.isub, 1) := by decide +kernel
theorem dX10_round_82 : decode cX10_round 82 = .ok (.istore 4, 2) := by decide +kernel
theorem dX10_round_84 : decode cX10_round 84 = .ok (.iload 4, 2) := by decide +kernel
theorem dX10_round_86 : decode cX10_round 86 = .ok (.ifCond .lt 46, 3) := by decide +kernel
theorem dX10_round_89 : decode cX10_round 89 = .ok (.iload 4, 2) := by decide +kernel
theorem dX10_round_91 : decode cX10_round 91 = .ok (.invokestatic 103, 3) := by decide +kernel
theorem dX10_round_94 : decode cX10_round 94 = .ok (.iload_n 3, 1) := by decide +kernel
theorem dX10_round_95 : decode cX10_round 95 = .ok (.invokestatic 103, 3) := by decide +kernel
theorem dX10_round_98 : decode cX10_round 98 = .ok (.if_icmp .gt 7, 3) := by decide +kernel
theorem dX10_round_101 : decode cX10_round 101 = .ok (.iconst 1, 1) := by decide +kernel
theorem dX10_round_102 : decode cX10_round 102 = .ok (.goto 4, 3) := by decide +kernel
theorem dX10_round_105 : decode cX10_round 105 = .ok (.iconst 0, 1) := by decide +kernel
theorem dX10_round_106 : decode cX10_round 106 = .ok (.istore 5, 2) := by decide +kernel
theorem dX10_round_108 : decode cX10_round 108 = .ok (.iload 5, 2) := by decide +kernel
theorem dX10_round_110 : decode cX10_round 110 = .ok (.ifCond .eq 16, 3) := by decide +kernel
theorem dX10_round_113 : decode cX10_round 113 = .ok (.aload_n 0, 1) := by decide +kernel
theorem dX10_round_114 : decode cX10_round 114 = .ok (.iload 4, 2) := by decide +kernel
theorem dX10_round_116 : decode cX10_round 116 = .ok (.invokevirtual 203, 3) := by decide +kernel
theorem dX10_round_119 : decode cX10_round 119 = .ok (.iload_n 2, 1) := by decide +kernel
theorem dX10_round_120 : decode cX10_round 120 = .ok (.if_icmp .ne 6, 3) := by decide +kernel
theorem dX10_round_123 : decode cX10_round 123 = .ok (.iload 4, 2) := by decide +kernel
theorem dX10_round_125 : decode cX10_round 125 = .ok (.istore_n 3, 1) := by decide +kernel
theorem dX10_round_126 : decode cX10_round 126 = .ok (.iinc 4 (-1), 3) := by decide +kernel
theorem dX10_round_129 : decode cX10_round 129 = .ok (.goto (-45), 3) := by decide +kernel
theorem dX10_round_132 : decode cX10_round 132 = .ok (.iload_n 1, 1) := by decide +kernel
theorem dX10_round_133 : decode cX10_round 133 = .ok (.ifCond .ne 7, 3) := by decide +kernel
theorem dX10_round_136 : decode cX10_round 136 = .ok (.iload_n 3, 1) := by decide +kernel
theorem dX10_round_137 : decode cX10_round 137 = .ok (.goto 7, 3) := by decide +kernel
theorem dX10_round_140 : decode cX10_round 140 = .ok (.iload_n 3, 1) := by decide +kernel
theorem dX10_round_141 : decode cX10_round 141 = .ok (.invokestatic 103, 3) := by decide +kernel
theorem dX10_round_144 : decode cX10_round 144 = .ok (.ireturn, 1) := by decide +kernel
set_option maxHeartbeats 4000000 in
set_option maxRecDepth 100000 in
theorem c_X10_round (d : Nat) (TX : gTX) (P B s : gS) (hR0 : RC TX P B s) (q : Int32) : gMt SC yX10_round cX10_round 6 (some .int) (d + 8) (fun ad => [.ref (ad 0), .int q]) s (gQi SC (fun r s' => RC TX P B s' ∧ r = s_round TX P q)) := by
  obtain ⟨nT, n, l, hR⟩ := hR0
  have hI := hR.1
  have hn6 : n ≤ 6 := hI.2.2.1.2.1
  have hl6 : l < 6 := cI_l6 hI
  have hxn : x_n P = n := x_nOf hI.2.2.1.1 hn6
  have hbI := hR.2.2
  refine gMt_of SC_ok (by decide +kernel) (fun ad => [some (.ref (ad 0)), some (.int q), none, none, none, none]) (fun _ => rfl) (fun _ => rfl) (fun _ => Nat.le_of_ble_eq_true rfl) (fun E C0 => ?_)
  have C : gCx SC E RX10 cX10_round 6 (some .int) (d + 8) := C0
  have fm : cI TX nT n l 45 P s := hI
  have fq : Fr mQ s s := Fr.rf
  refine G_iload_n (i := 1) C 1 dX10_round_0 rfl rfl rfl ?_
  refine G_iconst (v := 0) C 2 dX10_round_1 rfl rfl ?_
  refine G_iconst (v := 2) C 3 dX10_round_2 rfl rfl ?_
  refine G_calli 6 (G_runS C Kc_X10_within KS_X10_112 (by omega) (c_X10_within 0 q 0 2 s) rfl rfl (Nat.le_of_ble_eq_true rfl) rfl dX10_round_3) rfl (fun x3 s3 h3 => ?_)
  obtain ⟨es3, h3⟩ := h3
  have es3 := es3.symm
  subst es3
  refine G_if_ne C 12 9 dX10_round_6 rfl rfl (fun c6 => ?_) (fun c6 => ?_)
  ·
    have k6 := g_neT h3 c6
    refine G_iconst (v := 0) C 13 dX10_round_12 rfl rfl ?_
    refine G_istore_n (i := 2) (L' := [some (.ref (e_ad E 0)), some (.int q), some (.int 0), none, none, none]) C 14 dX10_round_13 rfl rfl (Nat.le_of_ble_eq_true rfl) rfl rfl ?_
    refine G_iconst (v := 0) C 15 dX10_round_14 rfl rfl ?_
    refine G_istore_n (i := 3) (L' := [some (.ref (e_ad E 0)), some (.int q), some (.int 0), some (.int 0), none, none]) C 16 dX10_round_15 rfl rfl (Nat.le_of_ble_eq_true rfl) rfl rfl ?_
    have L16 : ∀ (f16 : Nat) (k : Nat) (an y : Int32) (sl16 : gS) (Ey : y = nI k) (hk : k ≤ 9) (ha : an = x_tb (x_rT TX P) 511 k) (hT0 : ∀ j, j < k → sl16 5 j = x_rT TX P j) (fml16 : cI TX nT n l 45 P sl16) (fql16 : Fr mQ s sl16), 9 < k + f16 → GW SC E (gFin SC E (gQi SC (fun r s' => RC TX P B s' ∧ r = s_round TX P q))) 16 [some (.ref (e_ad E 0)), some (.int q), some (.int an), some (.int y), none, none] [] sl16 := by
      intro f16
      induction f16 with
      | zero =>
        intro k an y sl16 Ey hk ha hT0 fml16 fql16 hf16
        exact absurd hf16 (by omega)
      | succ f16 ih16 =>
        intro k an y sl16 Ey hk ha hT0 fml16 fql16 hf16
        refine G_iload_n (i := 3) C 17 dX10_round_16 rfl rfl rfl ?_
        refine G_bipush (v := 9) C 19 dX10_round_17 rfl rfl ?_
        refine G_icmp_ge C 58 22 dX10_round_19 rfl rfl (fun c19 => ?_) (fun c19 => ?_)
        ·
          have n19 : ¬ k < 9 := fun h => c19 ((g_ltN (a := k) (b := 9) (hx := Ey) (hy := rfl) (by omega) (by omega)).mpr h)
          refine G_iload_n (i := 1) C 59 dX10_round_58 rfl rfl rfl ?_
          refine G_iconst (v := 2) C 60 dX10_round_59 rfl rfl ?_
          refine G_icmp_ne C 75 63 dX10_round_60 rfl rfl (fun c60 => ?_) (fun c60 => ?_)
          ·
            have hT : ∀ j, j < 9 → sl16 5 j = x_rT TX P j := fun j hj => hT0 j (by omega)
            refine G_sipush (v := 511) C 78 dX10_round_75 rfl rfl ?_
            refine G_istore_n (i := 3) (L' := [some (.ref (e_ad E 0)), some (.int q), some (.int an), some (.int 511), none, none]) C 79 dX10_round_78 rfl rfl (Nat.le_of_ble_eq_true rfl) rfl rfl ?_
            refine G_iload_n (i := 3) C 80 dX10_round_79 rfl rfl rfl ?_
            refine G_iconst (v := 1) C 81 dX10_round_80 rfl rfl ?_
            refine G_isub C 82 dX10_round_81 rfl (fun x81 ex81 => ?_)
            obtain rfl : x81 = 510 := ex81.trans (by decide)
            refine G_istore (L' := [some (.ref (e_ad E 0)), some (.int q), some (.int an), some (.int 511), some (.int 510), none]) C 84 dX10_round_82 rfl (Nat.le_of_ble_eq_true rfl) rfl rfl ?_
            have L84 : ∀ (f84 : Nat) (j : Nat) (be y : Int32) (Ebe : be = nI ((x_rd (x_rT TX P) an j))) (hj : j ≤ 511) (hy : y = nI 510 - nI j), 511 < j + f84 → GW SC E (gFin SC E (gQi SC (fun r s' => RC TX P B s' ∧ r = s_round TX P q))) 84 [some (.ref (e_ad E 0)), some (.int q), some (.int an), some (.int be), some (.int y), none] [] sl16 := by
              intro f84
              induction f84 with
              | zero =>
                intro j be y Ebe hj hy hf84
                exact absurd hf84 (by omega)
              | succ f84 ih84 =>
                intro j be y Ebe hj hy hf84
                refine G_iload C 86 dX10_round_84 rfl rfl ?_
                refine G_if_lt C 132 89 dX10_round_86 rfl rfl (fun c86 => ?_) (fun c86 => ?_)
                ·
                  have hbe := x_rd_r (x_rT TX P) an j
                  refine G_iload_n (i := 1) C 133 dX10_round_132 rfl rfl rfl ?_
                  refine G_if_ne C 140 136 dX10_round_133 rfl rfl (fun c133 => ?_) (fun c133 => ?_)
                  ·
                    refine G_iload_n (i := 3) C 141 dX10_round_140 rfl rfl rfl ?_
                    refine G_calli 144 (G_runS C Kc_J6_bitCount_0f7a4 KS_X10_103 (by omega) (c_J6_bitCount_0f7a4 0 (x_rd (x_rT TX P) an j) (by omega) be Ebe sl16) rfl rfl (Nat.le_of_ble_eq_true rfl) rfl dX10_round_141) rfl (fun x141 s141 h141 => ?_)
                    obtain ⟨es141, h141⟩ := h141
                    have es141 := es141.symm
                    subst es141
                    have eA : an = x_rA TX P := by rw [ha, show k = 9 by omega]; rfl
                    have e511 : j = 511 := by
                      apply Classical.byContradiction
                      intro z
                      rw [hy, pk_sub (by omega)] at c86
                      exact nI_pos (by omega) c86
                    subst e511
                    exact G_iret C dX10_round_144 (⟨RC_q hR fql16, by unfold s_round; rw [if_neg k6, if_neg c60, if_neg c133, ← eA]; exact h141.trans (congrArg x_cnt Ebe)⟩)
                  ·
                    refine G_iload_n (i := 3) C 137 dX10_round_136 rfl rfl rfl ?_
                    refine G_goto C 144 dX10_round_137 rfl ?_
                    have eA : an = x_rA TX P := by rw [ha, show k = 9 by omega]; rfl
                    have e511 : j = 511 := by
                      apply Classical.byContradiction
                      intro z
                      rw [hy, pk_sub (by omega)] at c86
                      exact nI_pos (by omega) c86
                    subst e511
                    exact G_iret C dX10_round_144 (⟨RC_q hR fql16, by unfold s_round; rw [if_neg k6, if_neg c60, if_pos c133, ← eA]; exact Ebe⟩)
                ·
                  have hj1 : j ≤ 510 := by
                    apply Classical.byContradiction
                    intro z
                    exact c86 (by rw [hy]; exact pk_sneg (by omega) (by omega))
                  have Ey : y = nI (510 - j) := by rw [hy, pk_sub hj1]
                  have hbe := x_rd_r (x_rT TX P) an j
                  refine G_iload C 91 dX10_round_89 rfl rfl ?_
                  refine G_calli 94 (G_runS C Kc_J6_bitCount_0f7a4 KS_X10_103 (by omega) (c_J6_bitCount_0f7a4 0 (510 - j) (by omega) y Ey sl16) rfl rfl (Nat.le_of_ble_eq_true rfl) rfl dX10_round_91) rfl (fun x91 s91 h91 => ?_)
                  obtain ⟨es91, h91⟩ := h91
                  have es91 := es91.symm
                  subst es91
                  refine G_iload_n (i := 3) C 95 dX10_round_94 rfl rfl rfl ?_
                  refine G_calli 98 (G_runS C Kc_J6_bitCount_0f7a4 KS_X10_103 (by omega) (c_J6_bitCount_0f7a4 0 (x_rd (x_rT TX P) an j) (by omega) be Ebe sl16) rfl rfl (Nat.le_of_ble_eq_true rfl) rfl dX10_round_95) rfl (fun x95 s95 h95 => ?_)
                  obtain ⟨es95, h95⟩ := h95
                  have es95 := es95.symm
                  subst es95
                  refine G_icmp_gt C 105 101 dX10_round_98 rfl rfl (fun c98 => ?_) (fun c98 => ?_)
                  ·
                    refine G_iconst (v := 0) C 106 dX10_round_105 rfl rfl ?_
                    refine G_istore (L' := [some (.ref (e_ad E 0)), some (.int q), some (.int an), some (.int be), some (.int y), some (.int 0)]) C 108 dX10_round_106 rfl (Nat.le_of_ble_eq_true rfl) rfl rfl ?_
                    refine G_iload C 110 dX10_round_108 rfl rfl ?_
                    refine G_if_eq C 126 113 dX10_round_110 rfl rfl (fun _ => ?_) (fun c => absurd c (by decide))
                    refine G_iinc (w := (-1)) C 129 dX10_round_126 rfl rfl rfl rfl (fun x126 ex126 => ?_)
                    show GW SC E _ 129 [some (.ref (e_ad E 0)), some (.int q), some (.int an), some (.int be), some (.int x126), some (.int 0)] [] sl16
                    refine G_goto C 84 dX10_round_129 rfl ?_
                    refine G_drop (L' := [some (.ref (e_ad E 0)), some (.int q), some (.int an), some (.int be), some (.int x126), none]) ⟨rfl, rfl, rfl, rfl, rfl, trivial⟩ ?_
                    exact ih84 (j + 1) be x126  (g_cn (a := (x_rd (x_rT TX P) an j)) Ebe (by rw [x_rd, if_pos (by rw [← Ebe, ← Ey, ← h91, ← h95]; exact c98)])) (by omega) (g_cd hy ex126) (by omega)
                  ·
                    refine G_iconst (v := 1) C 102 dX10_round_101 rfl rfl ?_
                    refine G_goto C 106 dX10_round_102 rfl ?_
                    refine G_istore (L' := [some (.ref (e_ad E 0)), some (.int q), some (.int an), some (.int be), some (.int y), some (.int 1)]) C 108 dX10_round_106 rfl (Nat.le_of_ble_eq_true rfl) rfl rfl ?_
                    refine G_iload C 110 dX10_round_108 rfl rfl ?_
                    refine G_if_eq C 126 113 dX10_round_110 rfl rfl (fun c => absurd c (by decide)) (fun _ => ?_)
                    refine G_aload_n (i := 0) C 114 dX10_round_113 rfl rfl rfl ?_
                    refine G_iload C 116 dX10_round_114 rfl rfl ?_
                    refine G_calli 119 (G_runV C Kc_X10_mayAtAny KV_X10_203 (by omega) (by decide) (eC _ _ _) rfl (c_X10_mayAtAny 0 (x_rT TX P) sl16 hT y) rfl rfl rfl (Nat.le_of_ble_eq_true rfl) rfl dX10_round_116) rfl (fun x116 s116 h116 => ?_)
                    obtain ⟨es116, h116⟩ := h116
                    have es116 := es116.symm
                    subst es116
                    refine G_iload_n (i := 2) C 120 dX10_round_119 rfl rfl rfl ?_
                    refine G_icmp_ne C 126 123 dX10_round_120 rfl rfl (fun c120 => ?_) (fun c120 => ?_)
                    ·
                      refine G_iinc (w := (-1)) C 129 dX10_round_126 rfl rfl rfl rfl (fun x126 ex126 => ?_)
                      show GW SC E _ 129 [some (.ref (e_ad E 0)), some (.int q), some (.int an), some (.int be), some (.int x126), some (.int 1)] [] sl16
                      refine G_goto C 84 dX10_round_129 rfl ?_
                      refine G_drop (L' := [some (.ref (e_ad E 0)), some (.int q), some (.int an), some (.int be), some (.int x126), none]) ⟨rfl, rfl, rfl, rfl, rfl, trivial⟩ ?_
                      exact ih84 (j + 1) be x126  (g_cn (a := (x_rd (x_rT TX P) an j)) Ebe (by rw [x_rd, if_neg (by rw [← Ebe, ← Ey, ← h91, ← h95]; exact c98), if_neg (by rw [← Ey, ← h116]; exact c120)])) (by omega) (g_cd hy ex126) (by omega)
                    ·
                      refine G_iload C 125 dX10_round_123 rfl rfl ?_
                      refine G_istore_n (i := 3) (L' := [some (.ref (e_ad E 0)), some (.int q), some (.int an), some (.int y), some (.int y), some (.int 1)]) C 126 dX10_round_125 rfl rfl (Nat.le_of_ble_eq_true rfl) rfl rfl ?_
                      refine G_iinc (w := (-1)) C 129 dX10_round_126 rfl rfl rfl rfl (fun x126 ex126 => ?_)
                      show GW SC E _ 129 [some (.ref (e_ad E 0)), some (.int q), some (.int an), some (.int y), some (.int x126), some (.int 1)] [] sl16
                      refine G_goto C 84 dX10_round_129 rfl ?_
                      refine G_drop (L' := [some (.ref (e_ad E 0)), some (.int q), some (.int an), some (.int y), some (.int x126), none]) ⟨rfl, rfl, rfl, rfl, rfl, trivial⟩ ?_
                      exact ih84 (j + 1) y x126  (g_cn (a := (510 - j)) Ey (by rw [x_rd, if_neg (by rw [← Ebe, ← Ey, ← h91, ← h95]; exact c98), if_pos (by rw [← Ey, ← h116]; exact c120)])) (by omega) (g_cd hy ex126) (by omega)
            exact L84 (511 + 1) 0 511 510  (g_cn (a := 511) rfl (by first | rfl | omega)) (by omega) (by rw [ex81]; decide) (by omega)
          ·
            refine G_aload_n (i := 0) C 64 dX10_round_63 rfl rfl rfl ?_
            refine X10_57g C 67 dX10_round_64 rfl ?_
            refine X10_100g C (Or.inl rfl) 70 dX10_round_67 rfl (fun x67 ex67 => ?_)
            have Sx67 : x67 = P 0 2 := ex67.trans (cI_v fml16 0 2)
            obtain ⟨mx67, hmx67, emx67⟩ := fml16.2.2.1.2.2.2.2.2.2.2.1
            refine G_iload_n (i := 2) C 71 dX10_round_70 rfl rfl rfl ?_
            refine G_iconst (v := (-1)) C 72 dX10_round_71 rfl rfl ?_
            refine G_ixor C 73 dX10_round_72 rfl (fun x72 ex72 => ?_)
            refine G_iand C 74 dX10_round_73 rfl (fun x73 ex73 => ?_)
            have eA : an = x_rA TX P := by rw [ha, show k = 9 by omega]; rfl
            exact G_iret C dX10_round_74 (⟨RC_q hR fql16, by unfold s_round; rw [if_neg k6, if_pos c60, ex73, ex72, Sx67, eA]⟩)
        ·
          have n19 : k < 9 := (g_ltN (a := k) (b := 9) (hx := Ey) (hy := rfl) (by omega) (by omega)).mp c19
          refine G_aload_n (i := 0) C 23 dX10_round_22 rfl rfl rfl ?_
          refine X10_28g C 26 dX10_round_23 rfl ?_
          refine G_iload_n (i := 3) C 27 dX10_round_26 rfl rfl rfl ?_
          refine G_aload_n (i := 0) C 28 dX10_round_27 rfl rfl rfl ?_
          refine X10_57g C 31 dX10_round_28 rfl ?_
          refine G_iload_n (i := 3) C 32 dX10_round_31 rfl rfl rfl ?_
          refine G_aload_n (i := 0) C 33 dX10_round_32 rfl rfl rfl ?_
          refine X10_57g C 36 dX10_round_33 rfl ?_
          refine X10_100g C (Or.inl rfl) 39 dX10_round_36 rfl (fun x36 ex36 => ?_)
          have Sx36 : x36 = P 0 2 := ex36.trans (cI_v fml16 0 2)
          obtain ⟨mx36, hmx36, emx36⟩ := fml16.2.2.1.2.2.2.2.2.2.2.1
          refine G_calli 42 (G_runV C Kc_X9_mayAt KV_X10_128 (by omega) (lW0 (Or.inl rfl)) (eW _ _ _ (Or.inl rfl)) rfl (c_X9_mayAt 0 TX nT n l 45 P sl16 fml16 y x36 (⟨_, hmx36, Sx36.trans emx36⟩)) rfl rfl rfl (Nat.le_of_ble_eq_true rfl) rfl dX10_round_39) rfl (fun x39 s39 h39 => ?_)
          have fm_1 : cI TX nT n l 45 P s39 := cI_q fml16 (h39.1.SQ)
          have fq_1 : Fr mQ s s39 := Fr.tr fql16 (h39.1.SQ)
          refine G_iast (n := 9) C 43 (by decide) (fun σ => eMa _ _ σ) (k) Ey (by omega) (by decide) (by decide) dX10_round_42 rfl (fun s42 es42 => ?_)
          have fm_2 : cI TX nT n l 45 P s42 := cI_q fm_1 (Fr.up es42 (Or.inr rfl))
          have fq_2 : Fr mQ s s42 := Fr.tr fq_1 (Fr.up es42 (Or.inr rfl))
          refine G_iload_n (i := 2) C 44 dX10_round_43 rfl rfl rfl ?_
          refine G_aload_n (i := 0) C 45 dX10_round_44 rfl rfl rfl ?_
          refine X10_28g C 48 dX10_round_45 rfl ?_
          refine G_iload_n (i := 3) C 49 dX10_round_48 rfl rfl rfl ?_
          refine G_iald (n := 9) C 50 (by decide) (eMa _ _ _) (k) Ey (by omega) (by decide) dX10_round_49 rfl (fun x49 ex49 => ?_)
          refine G_ior C 51 dX10_round_50 rfl (fun x50 ex50 => ?_)
          refine G_istore_n (i := 2) (L' := [some (.ref (e_ad E 0)), some (.int q), some (.int x50), some (.int y), none, none]) C 52 dX10_round_51 rfl rfl (Nat.le_of_ble_eq_true rfl) rfl rfl ?_
          refine G_iinc (w := 1) C 55 dX10_round_52 rfl rfl rfl rfl (fun x52 ex52 => ?_)
          have Nx52 : x52 = nI (k + 1) := g_addN ex52 Ey rfl
          show GW SC E _ 55 [some (.ref (e_ad E 0)), some (.int q), some (.int x50), some (.int x52), none, none] [] s42
          refine G_goto C 16 dX10_round_55 rfl ?_
          exact ih16 (k + 1) x50 x52 s42 (g_cn (a := (k + 1)) Nx52 (by first | rfl | omega | (simp only [List.length_cons, List.length_drop]; done) | (simp only [List.length_cons, List.length_drop]; omega))) (by omega) (by rw [x_tb, if_neg ((by decide : ∀ k, k < 9 → ¬ x_bit 511 (nI k) = 0) k (by omega)), ex50, ha, ex49, es42, g_up_sj, if_pos rfl, h39.2, Sx36, Ey]; rfl) (fun j hj => by
            rw [es42, g_up_sj]
            by_cases e : j = k
            · rw [if_pos e, e, h39.2, Sx36, Ey]; rfl
            · rw [if_neg e, h39.1 5 (by unfold mS; omega)]; exact hT0 j (by omega)) fm_2 fq_2 (by omega)
    exact L16 (9 + 1) 0 0 0 s (g_cn (a := 0) rfl (by first | rfl | omega)) (by omega) (rfl) (fun j hj => absurd hj (by omega)) fm fq (by omega)
  ·
    have k6 := h3.symm.trans c6
    refine G_bipush (v := (-2)) C 11 dX10_round_9 rfl rfl ?_
    exact G_iret C dX10_round_11 (⟨RC_q hR fq, by unfold s_round; rw [if_pos k6]⟩)
