theorem dX11_in_0 : decode cX11_in 0 = .ok (.iload_n 0, 1) := by decide +kernel
theorem dX11_in_1 : decode cX11_in 1 = .ok (.iload_n 1, 1) := by decide +kernel
theorem dX11_in_2 : decode cX11_in 2 = .ok (.if_icmp .lt 12, 3) := by decide +kernel
theorem dX11_in_5 : decode cX11_in 5 = .ok (.iload_n 0, 1) := by decide +kernel
theorem dX11_in_6 : decode cX11_in 6 = .ok (.iload_n 2, 1) := by decide +kernel
theorem dX11_in_7 : decode cX11_in 7 = .ok (.if_icmp .gt 7, 3) := by decide +kernel
theorem dX11_in_10 : decode cX11_in 10 = .ok (.iconst 1, 1) := by decide +kernel
theorem dX11_in_11 : decode cX11_in 11 = .ok (.goto 4, 3) := by decide +kernel
theorem dX11_in_14 : decode cX11_in 14 = .ok (.iconst 0, 1) := by decide +kernel
theorem dX11_in_15 : decode cX11_in 15 = .ok (.ireturn, 1) := by decide +kernel
set_option maxHeartbeats 4000000 in
set_option maxRecDepth 100000 in
theorem c_X11_in (d : Nat) (v a b : Int32) (s : gS) : gMt SM yX11_in cX11_in 3 (some .boolean) (d + 1) (fun ad => [.int v, .int a, .int b]) s (gQi SM (fun r s' => s' = s ∧ r = x_in v a b)) := by
  refine gMt_of SM_ok (by decide +kernel) (fun ad => [some (.int v), some (.int a), some (.int b)]) (fun _ => rfl) (fun _ => rfl) (fun _ => Nat.le_of_ble_eq_true rfl) (fun E C0 => ?_)
  have C : gCx SM E RX11 cX11_in 3 (some .boolean) (d + 1) := C0
  refine G_iload_n (i := 0) C 1 dX11_in_0 rfl rfl rfl ?_
  refine G_iload_n (i := 1) C 2 dX11_in_1 rfl rfl rfl ?_
  refine G_icmp_lt C 14 5 dX11_in_2 rfl rfl (fun c2 => ?_) (fun c2 => ?_)
  ·
    refine G_iconst (v := 0) C 15 dX11_in_14 rfl rfl ?_
    exact G_zret C rfl dX11_in_15 (⟨rfl, by simp [x_in, *]⟩)
  ·
    refine G_iload_n (i := 0) C 6 dX11_in_5 rfl rfl rfl ?_
    refine G_iload_n (i := 2) C 7 dX11_in_6 rfl rfl rfl ?_
    refine G_icmp_gt C 14 10 dX11_in_7 rfl rfl (fun c7 => ?_) (fun c7 => ?_)
    ·
      refine G_iconst (v := 0) C 15 dX11_in_14 rfl rfl ?_
      exact G_zret C rfl dX11_in_15 (⟨rfl, by simp [x_in, *]⟩)
    ·
      refine G_iconst (v := 1) C 11 dX11_in_10 rfl rfl ?_
      refine G_goto C 15 dX11_in_11 rfl ?_
      exact G_zret C rfl dX11_in_15 (⟨rfl, by simp [x_in, *]⟩)
theorem dX11_within_0 : decode cX11_within 0 = .ok (.iload_n 0, 1) := by decide +kernel
theorem dX11_within_1 : decode cX11_within 1 = .ok (.iload_n 1, 1) := by decide +kernel
theorem dX11_within_2 : decode cX11_within 2 = .ok (.if_icmp .ge 7, 3) := by decide +kernel
theorem dX11_within_5 : decode cX11_within 5 = .ok (.iload_n 1, 1) := by decide +kernel
theorem dX11_within_6 : decode cX11_within 6 = .ok (.goto 13, 3) := by decide +kernel
theorem dX11_within_9 : decode cX11_within 9 = .ok (.iload_n 0, 1) := by decide +kernel
theorem dX11_within_10 : decode cX11_within 10 = .ok (.iload_n 2, 1) := by decide +kernel
theorem dX11_within_11 : decode cX11_within 11 = .ok (.if_icmp .le 7, 3) := by decide +kernel
theorem dX11_within_14 : decode cX11_within 14 = .ok (.iload_n 2, 1) := by decide +kernel
theorem dX11_within_15 : decode cX11_within 15 = .ok (.goto 4, 3) := by decide +kernel
theorem dX11_within_18 : decode cX11_within 18 = .ok (.iload_n 0, 1) := by decide +kernel
theorem dX11_within_19 : decode cX11_within 19 = .ok (.ireturn, 1) := by decide +kernel
set_option maxHeartbeats 4000000 in
set_option maxRecDepth 100000 in
theorem c_X11_within (d : Nat) (v a b : Int32) (s : gS) : gMt SM yX11_within cX11_within 3 (some .int) (d + 1) (fun ad => [.int v, .int a, .int b]) s (gQi SM (fun r s' => s' = s ∧ r = if v < a then a else if b < v then b else v)) := by
  refine gMt_of SM_ok (by decide +kernel) (fun ad => [some (.int v), some (.int a), some (.int b)]) (fun _ => rfl) (fun _ => rfl) (fun _ => Nat.le_of_ble_eq_true rfl) (fun E C0 => ?_)
  have C : gCx SM E RX11 cX11_within 3 (some .int) (d + 1) := C0
  refine G_iload_n (i := 0) C 1 dX11_within_0 rfl rfl rfl ?_
  refine G_iload_n (i := 1) C 2 dX11_within_1 rfl rfl rfl ?_
  refine G_icmp_ge C 9 5 dX11_within_2 rfl rfl (fun c2 => ?_) (fun c2 => ?_)
  ·
    refine G_iload_n (i := 0) C 10 dX11_within_9 rfl rfl rfl ?_
    refine G_iload_n (i := 2) C 11 dX11_within_10 rfl rfl rfl ?_
    refine G_icmp_le C 18 14 dX11_within_11 rfl rfl (fun c11 => ?_) (fun c11 => ?_)
    ·
      refine G_iload_n (i := 0) C 19 dX11_within_18 rfl rfl rfl ?_
      exact G_iret C dX11_within_19 (⟨rfl, by repeat (first | rw [if_pos (by assumption)] | rw [if_neg (by assumption)])⟩)
    ·
      refine G_iload_n (i := 2) C 15 dX11_within_14 rfl rfl rfl ?_
      refine G_goto C 19 dX11_within_15 rfl ?_
      exact G_iret C dX11_within_19 (⟨rfl, by repeat (first | rw [if_pos (by assumption)] | rw [if_neg (by assumption)])⟩)
  ·
    refine G_iload_n (i := 1) C 6 dX11_within_5 rfl rfl rfl ?_
    refine G_goto C 19 dX11_within_6 rfl ?_
    exact G_iret C dX11_within_19 (⟨rfl, by repeat (first | rw [if_pos (by assumption)] | rw [if_neg (by assumption)])⟩)
theorem dX11_onesOf_0 : decode cX11_onesOf 0 = .ok (.iconst 0, 1) := by decide +kernel
theorem dX11_onesOf_1 : decode cX11_onesOf 1 = .ok (.istore_n 1, 1) := by decide +kernel
theorem dX11_onesOf_2 : decode cX11_onesOf 2 = .ok (.iconst 0, 1) := by decide +kernel
theorem dX11_onesOf_3 : decode cX11_onesOf 3 = .ok (.istore_n 2, 1) := by decide +kernel
theorem dX11_onesOf_4 : decode cX11_onesOf 4 = .ok (.iload_n 2, 1) := by decide +kernel
theorem dX11_onesOf_5 : decode cX11_onesOf 5 = .ok (.bipush 10, 2) := by decide +kernel
theorem dX11_onesOf_7 : decode cX11_onesOf 7 = .ok (.if_icmp .ge 17, 3) := by decide +kernel
theorem dX11_onesOf_10 : decode cX11_onesOf 10 = .ok (.iload_n 1, 1) := by decide +kernel
theorem dX11_onesOf_11 : decode cX11_onesOf 11 = .ok (.iload_n 0, 1) := by decide +kernel
theorem dX11_onesOf_12 : decode cX11_onesOf 12 = .ok (.iload_n 2, 1) := by decide +kernel
theorem dX11_onesOf_13 : decode cX11_onesOf 13 = .ok (.ishr, 1) := by decide +kernel
theorem dX11_onesOf_14 : decode cX11_onesOf 14 = .ok (.iconst 1, 1) := by decide +kernel
theorem dX11_onesOf_15 : decode cX11_onesOf 15 = .ok (.iand, 1) := by decide +kernel
theorem dX11_onesOf_16 : decode cX11_onesOf 16 = .ok (.iadd, 1) := by decide +kernel
theorem dX11_onesOf_17 : decode cX11_onesOf 17 = .ok (.istore_n 1, 1) := by decide +kernel
theorem dX11_onesOf_18 : decode cX11_onesOf 18 = .ok (.iinc 2 1, 3) := by decide +kernel
theorem dX11_onesOf_21 : decode cX11_onesOf 21 = .ok (.goto (-17), 3) := by decide +kernel
theorem dX11_onesOf_24 : decode cX11_onesOf 24 = .ok (.iload_n 1, 1) := by decide +kernel
theorem dX11_onesOf_25 : decode cX11_onesOf 25 = .ok (.ireturn, 1) := by decide +kernel
set_option maxHeartbeats 4000000 in
set_option maxRecDepth 100000 in
theorem c_X11_onesOf (d : Nat) (v : Int32) (s : gS) : gMt SM yX11_onesOf cX11_onesOf 3 (some .int) (d + 1) (fun ad => [.int v]) s (gQi SM (fun r s' => s' = s ∧ r = x_cnt v)) := by
  refine gMt_of SM_ok (by decide +kernel) (fun ad => [some (.int v), none, none]) (fun _ => rfl) (fun _ => rfl) (fun _ => Nat.le_of_ble_eq_true rfl) (fun E C0 => ?_)
  have C : gCx SM E RX11 cX11_onesOf 3 (some .int) (d + 1) := C0
  refine G_iconst (v := 0) C 1 dX11_onesOf_0 rfl rfl ?_
  refine G_istore_n (i := 1) (L' := [some (.int v), some (.int 0), none]) C 2 dX11_onesOf_1 rfl rfl (Nat.le_of_ble_eq_true rfl) rfl rfl ?_
  refine G_iconst (v := 0) C 3 dX11_onesOf_2 rfl rfl ?_
  refine G_istore_n (i := 2) (L' := [some (.int v), some (.int 0), some (.int 0)]) C 4 dX11_onesOf_3 rfl rfl (Nat.le_of_ble_eq_true rfl) rfl rfl ?_
  have L4 : ∀ (f4 : Nat) (k : Nat) (a x : Int32) (Ex : x = nI k) (hk : k ≤ 10) (ha : a = x_ones v k), 10 < k + f4 → GW SM E (gFin SM E (gQi SM (fun r s' => s' = s ∧ r = x_cnt v))) 4 [some (.int v), some (.int a), some (.int x)] [] s := by
    intro f4
    induction f4 with
    | zero =>
      intro k a x Ex hk ha hf4
      exact absurd hf4 (by omega)
    | succ f4 ih4 =>
      intro k a x Ex hk ha hf4
      refine G_iload_n (i := 2) C 5 dX11_onesOf_4 rfl rfl rfl ?_
      refine G_bipush (v := 10) C 7 dX11_onesOf_5 rfl rfl ?_
      refine G_icmp_ge C 24 10 dX11_onesOf_7 rfl rfl (fun c7 => ?_) (fun c7 => ?_)
      ·
        have n7 : ¬ k < 10 := fun h => c7 ((g_ltN (a := k) (b := 10) (hx := Ex) (hy := rfl) (by omega) (by omega)).mpr h)
        refine G_iload_n (i := 1) C 25 dX11_onesOf_24 rfl rfl rfl ?_
        exact G_iret C dX11_onesOf_25 (⟨rfl, by rw [ha, show k = 10 by omega]; rfl⟩)
      ·
        have n7 : k < 10 := (g_ltN (a := k) (b := 10) (hx := Ex) (hy := rfl) (by omega) (by omega)).mp c7
        refine G_iload_n (i := 1) C 11 dX11_onesOf_10 rfl rfl rfl ?_
        refine G_iload_n (i := 0) C 12 dX11_onesOf_11 rfl rfl rfl ?_
        refine G_iload_n (i := 2) C 13 dX11_onesOf_12 rfl rfl rfl ?_
        refine G_ishr C 14 dX11_onesOf_13 rfl (fun x13 ex13 => ?_)
        refine G_iconst (v := 1) C 15 dX11_onesOf_14 rfl rfl ?_
        refine G_iand C 16 dX11_onesOf_15 rfl (fun x15 ex15 => ?_)
        refine G_iadd C 17 dX11_onesOf_16 rfl (fun x16 ex16 => ?_)
        refine G_istore_n (i := 1) (L' := [some (.int v), some (.int x16), some (.int x)]) C 18 dX11_onesOf_17 rfl rfl (Nat.le_of_ble_eq_true rfl) rfl rfl ?_
        refine G_iinc (w := 1) C 21 dX11_onesOf_18 rfl rfl rfl rfl (fun x18 ex18 => ?_)
        have Nx18 : x18 = nI (k + 1) := g_addN ex18 Ex rfl
        show GW SM E _ 21 [some (.int v), some (.int x16), some (.int x18)] [] s
        refine G_goto C 4 dX11_onesOf_21 rfl ?_
        exact ih4 (k + 1) x16 x18  (g_cn (a := (k + 1)) Nx18 (by first | rfl | omega | (simp only [List.length_cons, List.length_drop]; done) | (simp only [List.length_cons, List.length_drop]; omega))) (by omega) (by rw [x_ones, x_bit, ex16, ex15, ex13, Ex, ha]) (by omega)
  exact L4 (10 + 1) 0 0 0  (g_cn (a := 0) rfl (by first | rfl | omega)) (by omega) (rfl) (by omega)
theorem y_one {x : Int32} {n : Nat} (h6 : n ≤ 6) : x_in x 0 (nI n - 1) = x_one x n := by
  unfold x_in x_one
  by_cases h : x < 0
  · rw [if_pos h, if_pos h]
  · rw [if_neg h, if_neg h]
    obtain ⟨j, hj, rfl⟩ := nI_of h
    have e : (nI n - 1).toInt = (n : Int) - 1 := by
      have := pk_sub_toInt (a := n) (b := 1) (by omega) (by omega)
      exact this
    have e2 : nI n - 1 < nI j ↔ n < j + 1 := by
      rw [Int32.lt_iff_toInt_lt, e, nI_toInt hj]
      omega
    have e3 : nI j < nI n ↔ j < n := nI_ltI hj (by omega)
    by_cases h2 : j < n
    · rw [if_neg (fun q => by have := e2.mp q; omega), if_pos (e3.mpr h2)]
    · rw [if_pos (e2.mpr (by omega)), if_neg (fun q => h2 (e3.mp q))]
theorem dX11_isOne_0 : decode cX11_isOne 0 = .ok (.iload_n 1, 1) := by decide +kernel
theorem dX11_isOne_1 : decode cX11_isOne 1 = .ok (.iconst 0, 1) := by decide +kernel
theorem dX11_isOne_2 : decode cX11_isOne 2 = .ok (.aload_n 0, 1) := by decide +kernel
theorem dX11_isOne_3 : decode cX11_isOne 3 = .ok (.getfield 75, 3) := by decide +kernel
theorem dX11_isOne_6 : decode cX11_isOne 6 = .ok (.iconst 1, 1) := by decide +kernel
theorem dX11_isOne_7 : decode cX11_isOne 7 = .ok (.isub, 1) := by decide +kernel
theorem dX11_isOne_8 : decode cX11_isOne 8 = .ok (.invokestatic 78, 3) := by decide +kernel
theorem dX11_isOne_11 : decode cX11_isOne 11 = .ok (.ireturn, 1) := by decide +kernel
set_option maxHeartbeats 4000000 in
set_option maxRecDepth 100000 in
theorem c_X11_isOne (d n : Nat) (h6 : n ≤ 6) (s : gS) (hn : s 0 0 = nI n) (x : Int32) : gMt SM yX11_isOne cX11_isOne 2 (some .boolean) (d + 2) (fun ad => [.ref (ad 0), .int x]) s (gQi SM (fun r s' => s' = s ∧ r = x_one x n)) := by
  refine gMt_of SM_ok (by decide +kernel) (fun ad => [some (.ref (ad 0)), some (.int x)]) (fun _ => rfl) (fun _ => rfl) (fun _ => Nat.le_of_ble_eq_true rfl) (fun E C0 => ?_)
  have C : gCx SM E RX11 cX11_isOne 2 (some .boolean) (d + 2) := C0
  refine G_iload_n (i := 1) C 1 dX11_isOne_0 rfl rfl rfl ?_
  refine G_iconst (v := 0) C 2 dX11_isOne_1 rfl rfl ?_
  refine G_aload_n (i := 0) C 3 dX11_isOne_2 rfl rfl rfl ?_
  refine X11_75g C 6 dX11_isOne_3 rfl (fun x3 ex3 => ?_)
  have Sx3 : x3 = nI n := ex3.trans hn
  refine G_iconst (v := 1) C 7 dX11_isOne_6 rfl rfl ?_
  refine G_isub C 8 dX11_isOne_7 rfl (fun x7 ex7 => ?_)
  refine G_calli 11 (G_runS C Kc_X11_in KS_X11_78 (by omega) (c_X11_in 0 x 0 x7 s) rfl rfl (Nat.le_of_ble_eq_true rfl) rfl dX11_isOne_8) rfl (fun x8 s8 h8 => ?_)
  obtain ⟨es8, h8⟩ := h8
  have es8 := es8.symm
  subst es8
  exact G_zret C (g_nb (by rw [h8]; exact x_in01 _ _ _)) dX11_isOne_11 (⟨rfl, by rw [h8, ex7, Sx3, y_one h6]⟩)
theorem dX11_two_0 : decode cX11_two 0 = .ok (.iload_n 0, 1) := by decide +kernel
theorem dX11_two_1 : decode cX11_two 1 = .ok (.tableswitch 101 11 17 #[43, 57, 101, 71, 82, 93, 97], 43) := by decide +kernel
theorem dX11_two_44 : decode cX11_two 44 = .ok (.iload_n 1, 1) := by decide +kernel
theorem dX11_two_45 : decode cX11_two 45 = .ok (.ifCond .ne 7, 3) := by decide +kernel
theorem dX11_two_48 : decode cX11_two 48 = .ok (.iload_n 2, 1) := by decide +kernel
theorem dX11_two_49 : decode cX11_two 49 = .ok (.ifCond .eq 7, 3) := by decide +kernel
theorem dX11_two_52 : decode cX11_two 52 = .ok (.iconst 1, 1) := by decide +kernel
theorem dX11_two_53 : decode cX11_two 53 = .ok (.goto 4, 3) := by decide +kernel
theorem dX11_two_56 : decode cX11_two 56 = .ok (.iconst 0, 1) := by decide +kernel
theorem dX11_two_57 : decode cX11_two 57 = .ok (.ireturn, 1) := by decide +kernel
theorem dX11_two_58 : decode cX11_two 58 = .ok (.iload_n 1, 1) := by decide +kernel
theorem dX11_two_59 : decode cX11_two 59 = .ok (.ifCond .eq 11, 3) := by decide +kernel
theorem dX11_two_62 : decode cX11_two 62 = .ok (.iload_n 2, 1) := by decide +kernel
theorem dX11_two_63 : decode cX11_two 63 = .ok (.ifCond .eq 7, 3) := by decide +kernel
theorem dX11_two_66 : decode cX11_two 66 = .ok (.iconst 1, 1) := by decide +kernel
theorem dX11_two_67 : decode cX11_two 67 = .ok (.goto 4, 3) := by decide +kernel
theorem dX11_two_70 : decode cX11_two 70 = .ok (.iconst 0, 1) := by decide +kernel
theorem dX11_two_71 : decode cX11_two 71 = .ok (.ireturn, 1) := by decide +kernel
theorem dX11_two_72 : decode cX11_two 72 = .ok (.iload_n 1, 1) := by decide +kernel
theorem dX11_two_73 : decode cX11_two 73 = .ok (.iload_n 2, 1) := by decide +kernel
theorem dX11_two_74 : decode cX11_two 74 = .ok (.if_icmp .ge 7, 3) := by decide +kernel
theorem dX11_two_77 : decode cX11_two 77 = .ok (.iconst 1, 1) := by decide +kernel
theorem dX11_two_78 : decode cX11_two 78 = .ok (.goto 4, 3) := by decide +kernel
theorem dX11_two_81 : decode cX11_two 81 = .ok (.iconst 0, 1) := by decide +kernel
theorem dX11_two_82 : decode cX11_two 82 = .ok (.ireturn, 1) := by decide +kernel
theorem dX11_two_83 : decode cX11_two 83 = .ok (.iload_n 1, 1) := by decide +kernel
theorem dX11_two_84 : decode cX11_two 84 = .ok (.iload_n 2, 1) := by decide +kernel
theorem dX11_two_85 : decode cX11_two 85 = .ok (.if_icmp .ne 7, 3) := by decide +kernel
theorem dX11_two_88 : decode cX11_two 88 = .ok (.iconst 1, 1) := by decide +kernel
theorem dX11_two_89 : decode cX11_two 89 = .ok (.goto 4, 3) := by decide +kernel
theorem dX11_two_92 : decode cX11_two 92 = .ok (.iconst 0, 1) := by decide +kernel
theorem dX11_two_93 : decode cX11_two 93 = .ok (.ireturn, 1) := by decide +kernel
theorem dX11_two_94 : decode cX11_two 94 = .ok (.iload_n 1, 1) := by decide +kernel
theorem dX11_two_95 : decode cX11_two 95 = .ok (.iload_n 2, 1) := by decide +kernel
theorem dX11_two_96 : decode cX11_two 96 = .ok (.iadd, 1) := by decide +kernel
theorem dX11_two_97 : decode cX11_two 97 = .ok (.ireturn, 1) := by decide +kernel
theorem dX11_two_98 : decode cX11_two 98 = .ok (.iload_n 1, 1) := by decide +kernel
theorem dX11_two_99 : decode cX11_two 99 = .ok (.iload_n 2, 1) := by decide +kernel
theorem dX11_two_100 : decode cX11_two 100 = .ok (.isub, 1) := by decide +kernel
theorem dX11_two_101 : decode cX11_two 101 = .ok (.ireturn, 1) := by decide +kernel
theorem dX11_two_102 : decode cX11_two 102 = .ok (.iload_n 1, 1) := by decide +kernel
theorem dX11_two_103 : decode cX11_two 103 = .ok (.iload_n 2, 1) := by decide +kernel
theorem dX11_two_104 : decode cX11_two 104 = .ok (.imul, 1) := by decide +kernel
theorem dX11_two_105 : decode cX11_two 105 = .ok (.ireturn, 1) := by decide +kernel
set_option maxHeartbeats 4000000 in
set_option maxRecDepth 100000 in
theorem c_X11_two_11 (d : Nat) (a b : Int32) (s : gS) : gMt SM yX11_two cX11_two 3 (some .int) (d + 1) (fun ad => [.int 11, .int a, .int b]) s (gQi SM (fun r s' => s' = s ∧ r = x_op2 11 a b)) := by
  refine gMt_of SM_ok (by decide +kernel) (fun ad => [some (.int 11), some (.int a), some (.int b)]) (fun _ => rfl) (fun _ => rfl) (fun _ => Nat.le_of_ble_eq_true rfl) (fun E C0 => ?_)
  have C : gCx SM E RX11 cX11_two 3 (some .int) (d + 1) := C0
  refine G_iload_n (i := 0) C 1 dX11_two_0 rfl rfl rfl ?_
  refine G_tsIn C 44 (11) rfl dX11_two_1 (by decide) rfl rfl ?_
  refine G_iload_n (i := 1) C 45 dX11_two_44 rfl rfl rfl ?_
  refine G_if_ne C 52 48 dX11_two_45 rfl rfl (fun c45 => ?_) (fun c45 => ?_)
  ·
    refine G_iconst (v := 1) C 53 dX11_two_52 rfl rfl ?_
    refine G_goto C 57 dX11_two_53 rfl ?_
    exact G_iret C dX11_two_57 (⟨rfl, by subst_vars; simp [x_op2, *]⟩)
  ·
    refine G_iload_n (i := 2) C 49 dX11_two_48 rfl rfl rfl ?_
    refine G_if_eq C 56 52 dX11_two_49 rfl rfl (fun c49 => ?_) (fun c49 => ?_)
    ·
      refine G_iconst (v := 0) C 57 dX11_two_56 rfl rfl ?_
      exact G_iret C dX11_two_57 (⟨rfl, by subst_vars; simp [x_op2, *]⟩)
    ·
      refine G_iconst (v := 1) C 53 dX11_two_52 rfl rfl ?_
      refine G_goto C 57 dX11_two_53 rfl ?_
      exact G_iret C dX11_two_57 (⟨rfl, by subst_vars; simp [x_op2, *]⟩)
set_option maxHeartbeats 4000000 in
set_option maxRecDepth 100000 in
theorem c_X11_two_12 (d : Nat) (a b : Int32) (s : gS) : gMt SM yX11_two cX11_two 3 (some .int) (d + 1) (fun ad => [.int 12, .int a, .int b]) s (gQi SM (fun r s' => s' = s ∧ r = x_op2 12 a b)) := by
  refine gMt_of SM_ok (by decide +kernel) (fun ad => [some (.int 12), some (.int a), some (.int b)]) (fun _ => rfl) (fun _ => rfl) (fun _ => Nat.le_of_ble_eq_true rfl) (fun E C0 => ?_)
  have C : gCx SM E RX11 cX11_two 3 (some .int) (d + 1) := C0
  refine G_iload_n (i := 0) C 1 dX11_two_0 rfl rfl rfl ?_
  refine G_tsIn C 58 (12) rfl dX11_two_1 (by decide) rfl rfl ?_
  refine G_iload_n (i := 1) C 59 dX11_two_58 rfl rfl rfl ?_
  refine G_if_eq C 70 62 dX11_two_59 rfl rfl (fun c59 => ?_) (fun c59 => ?_)
  ·
    refine G_iconst (v := 0) C 71 dX11_two_70 rfl rfl ?_
    exact G_iret C dX11_two_71 (⟨rfl, by subst_vars; simp [x_op2, *]⟩)
  ·
    refine G_iload_n (i := 2) C 63 dX11_two_62 rfl rfl rfl ?_
    refine G_if_eq C 70 66 dX11_two_63 rfl rfl (fun c63 => ?_) (fun c63 => ?_)
    ·
      refine G_iconst (v := 0) C 71 dX11_two_70 rfl rfl ?_
      exact G_iret C dX11_two_71 (⟨rfl, by subst_vars; simp [x_op2, *]⟩)
    ·
      refine G_iconst (v := 1) C 67 dX11_two_66 rfl rfl ?_
      refine G_goto C 71 dX11_two_67 rfl ?_
      exact G_iret C dX11_two_71 (⟨rfl, by subst_vars; simp [x_op2, *]⟩)
set_option maxHeartbeats 4000000 in
set_option maxRecDepth 100000 in
theorem c_X11_two_14 (d : Nat) (a b : Int32) (s : gS) : gMt SM yX11_two cX11_two 3 (some .int) (d + 1) (fun ad => [.int 14, .int a, .int b]) s (gQi SM (fun r s' => s' = s ∧ r = x_op2 14 a b)) := by
  refine gMt_of SM_ok (by decide +kernel) (fun ad => [some (.int 14), some (.int a), some (.int b)]) (fun _ => rfl) (fun _ => rfl) (fun _ => Nat.le_of_ble_eq_true rfl) (fun E C0 => ?_)
  have C : gCx SM E RX11 cX11_two 3 (some .int) (d + 1) := C0
  refine G_iload_n (i := 0) C 1 dX11_two_0 rfl rfl rfl ?_
  refine G_tsIn C 72 (14) rfl dX11_two_1 (by decide) rfl rfl ?_
  refine G_iload_n (i := 1) C 73 dX11_two_72 rfl rfl rfl ?_
  refine G_iload_n (i := 2) C 74 dX11_two_73 rfl rfl rfl ?_
  refine G_icmp_ge C 81 77 dX11_two_74 rfl rfl (fun c74 => ?_) (fun c74 => ?_)
  ·
    refine G_iconst (v := 0) C 82 dX11_two_81 rfl rfl ?_
    exact G_iret C dX11_two_82 (⟨rfl, by subst_vars; simp [x_op2, *]⟩)
  ·
    refine G_iconst (v := 1) C 78 dX11_two_77 rfl rfl ?_
    refine G_goto C 82 dX11_two_78 rfl ?_
    exact G_iret C dX11_two_82 (⟨rfl, by subst_vars; simp [x_op2, *]⟩)
set_option maxHeartbeats 4000000 in
set_option maxRecDepth 100000 in
theorem c_X11_two_15 (d : Nat) (a b : Int32) (s : gS) : gMt SM yX11_two cX11_two 3 (some .int) (d + 1) (fun ad => [.int 15, .int a, .int b]) s (gQi SM (fun r s' => s' = s ∧ r = x_op2 15 a b)) := by
  refine gMt_of SM_ok (by decide +kernel) (fun ad => [some (.int 15), some (.int a), some (.int b)]) (fun _ => rfl) (fun _ => rfl) (fun _ => Nat.le_of_ble_eq_true rfl) (fun E C0 => ?_)
  have C : gCx SM E RX11 cX11_two 3 (some .int) (d + 1) := C0
  refine G_iload_n (i := 0) C 1 dX11_two_0 rfl rfl rfl ?_
  refine G_tsIn C 83 (15) rfl dX11_two_1 (by decide) rfl rfl ?_
  refine G_iload_n (i := 1) C 84 dX11_two_83 rfl rfl rfl ?_
  refine G_iload_n (i := 2) C 85 dX11_two_84 rfl rfl rfl ?_
  refine G_icmp_ne C 92 88 dX11_two_85 rfl rfl (fun c85 => ?_) (fun c85 => ?_)
  ·
    refine G_iconst (v := 0) C 93 dX11_two_92 rfl rfl ?_
    exact G_iret C dX11_two_93 (⟨rfl, by subst_vars; simp [x_op2, *]⟩)
  ·
    refine G_iconst (v := 1) C 89 dX11_two_88 rfl rfl ?_
    refine G_goto C 93 dX11_two_89 rfl ?_
    exact G_iret C dX11_two_93 (⟨rfl, by subst_vars; simp [x_op2, *]⟩)
set_option maxHeartbeats 4000000 in
set_option maxRecDepth 100000 in
theorem c_X11_two_16 (d : Nat) (a b : Int32) (s : gS) : gMt SM yX11_two cX11_two 3 (some .int) (d + 1) (fun ad => [.int 16, .int a, .int b]) s (gQi SM (fun r s' => s' = s ∧ r = x_op2 16 a b)) := by
  refine gMt_of SM_ok (by decide +kernel) (fun ad => [some (.int 16), some (.int a), some (.int b)]) (fun _ => rfl) (fun _ => rfl) (fun _ => Nat.le_of_ble_eq_true rfl) (fun E C0 => ?_)
  have C : gCx SM E RX11 cX11_two 3 (some .int) (d + 1) := C0
  refine G_iload_n (i := 0) C 1 dX11_two_0 rfl rfl rfl ?_
  refine G_tsIn C 94 (16) rfl dX11_two_1 (by decide) rfl rfl ?_
  refine G_iload_n (i := 1) C 95 dX11_two_94 rfl rfl rfl ?_
  refine G_iload_n (i := 2) C 96 dX11_two_95 rfl rfl rfl ?_
  refine G_iadd C 97 dX11_two_96 rfl (fun x96 ex96 => ?_)
  exact G_iret C dX11_two_97 (⟨rfl, by subst_vars; simp [x_op2, *]⟩)
set_option maxHeartbeats 4000000 in
set_option maxRecDepth 100000 in
theorem c_X11_two_17 (d : Nat) (a b : Int32) (s : gS) : gMt SM yX11_two cX11_two 3 (some .int) (d + 1) (fun ad => [.int 17, .int a, .int b]) s (gQi SM (fun r s' => s' = s ∧ r = x_op2 17 a b)) := by
  refine gMt_of SM_ok (by decide +kernel) (fun ad => [some (.int 17), some (.int a), some (.int b)]) (fun _ => rfl) (fun _ => rfl) (fun _ => Nat.le_of_ble_eq_true rfl) (fun E C0 => ?_)
  have C : gCx SM E RX11 cX11_two 3 (some .int) (d + 1) := C0
  refine G_iload_n (i := 0) C 1 dX11_two_0 rfl rfl rfl ?_
  refine G_tsIn C 98 (17) rfl dX11_two_1 (by decide) rfl rfl ?_
  refine G_iload_n (i := 1) C 99 dX11_two_98 rfl rfl rfl ?_
  refine G_iload_n (i := 2) C 100 dX11_two_99 rfl rfl rfl ?_
  refine G_isub C 101 dX11_two_100 rfl (fun x100 ex100 => ?_)
  exact G_iret C dX11_two_101 (⟨rfl, by subst_vars; simp [x_op2, *]⟩)
set_option maxHeartbeats 4000000 in
set_option maxRecDepth 100000 in
theorem c_X11_two_18 (d : Nat) (a b : Int32) (s : gS) : gMt SM yX11_two cX11_two 3 (some .int) (d + 1) (fun ad => [.int 18, .int a, .int b]) s (gQi SM (fun r s' => s' = s ∧ r = x_op2 18 a b)) := by
  refine gMt_of SM_ok (by decide +kernel) (fun ad => [some (.int 18), some (.int a), some (.int b)]) (fun _ => rfl) (fun _ => rfl) (fun _ => Nat.le_of_ble_eq_true rfl) (fun E C0 => ?_)
  have C : gCx SM E RX11 cX11_two 3 (some .int) (d + 1) := C0
  refine G_iload_n (i := 0) C 1 dX11_two_0 rfl rfl rfl ?_
  refine G_tsOut C 102 dX11_two_1 (by decide) rfl ?_
  refine G_iload_n (i := 1) C 103 dX11_two_102 rfl rfl rfl ?_
  refine G_iload_n (i := 2) C 104 dX11_two_103 rfl rfl rfl ?_
  refine G_imul C 105 dX11_two_104 rfl (fun x104 ex104 => ?_)
  exact G_iret C dX11_two_105 (⟨rfl, by subst_vars; simp [x_op2, *]⟩)
theorem c_X11_two (d : Nat) (c : Nat) (hc : c = 11 ∨ c = 12 ∨ c = 14 ∨ c = 15 ∨ c = 16 ∨ c = 17 ∨ c = 18) (v a b : Int32) (hv : v = nI c) (s : gS) : gMt SM yX11_two cX11_two 3 (some .int) (d + 1) (fun ad => [.int v, .int a, .int b]) s (gQi SM (fun r s' => s' = s ∧ r = x_op2 c a b)) := by
  subst hv
  rcases hc with rfl | rfl | rfl | rfl | rfl | rfl | rfl
  · exact c_X11_two_11 d a b s
  · exact c_X11_two_12 d a b s
  · exact c_X11_two_14 d a b s
  · exact c_X11_two_15 d a b s
  · exact c_X11_two_16 d a b s
  · exact c_X11_two_17 d a b s
  · exact c_X11_two_18 d a b s
theorem dX11_says_0 : decode cX11_says 0 = .ok (.iconst 0, 1) := by decide +kernel
theorem dX11_says_1 : decode cX11_says 1 = .ok (.istore_n 2, 1) := by decide +kernel
theorem dX11_says_2 : decode cX11_says 2 = .ok (.aload_n 0, 1) := by decide +kernel
theorem dX11_says_3 : decode cX11_says 3 = .ok (.getfield 28, 3) := by decide +kernel
theorem dX11_says_6 : decode cX11_says 6 = .ok (.iconst 4, 1) := by decide +kernel
theorem dX11_says_7 : decode cX11_says 7 = .ok (.aload_n 0, 1) := by decide +kernel
theorem dX11_says_8 : decode cX11_says 8 = .ok (.getfield 89, 3) := by decide +kernel
theorem dX11_says_11 : decode cX11_says 11 = .ok (.imul, 1) := by decide +kernel
theorem dX11_says_12 : decode cX11_says 12 = .ok (.iload_n 1, 1) := by decide +kernel
theorem dX11_says_13 : decode cX11_says 13 = .ok (.iadd, 1) := by decide +kernel
theorem dX11_says_14 : decode cX11_says 14 = .ok (.iaload, 1) := by decide +kernel
theorem dX11_says_15 : decode cX11_says 15 = .ok (.istore_n 3, 1) := by decide +kernel
theorem dX11_says_16 : decode cX11_says 16 = .ok (.iload_n 3, 1) := by decide +kernel
theorem dX11_says_17 : decode cX11_says 17 = .ok (.aload_n 0, 1) := by decide +kernel
theorem dX11_says_18 : decode cX11_says 18 = .ok (.getfield 28, 3) := by decide +kernel
theorem dX11_says_21 : decode cX11_says 21 = .ok (.iconst 4, 1) := by decide +kernel
theorem dX11_says_22 : decode cX11_says 22 = .ok (.aload_n 0, 1) := by decide +kernel
theorem dX11_says_23 : decode cX11_says 23 = .ok (.getfield 89, 3) := by decide +kernel
theorem dX11_says_26 : decode cX11_says 26 = .ok (.imul, 1) := by decide +kernel
theorem dX11_says_27 : decode cX11_says 27 = .ok (.iload_n 1, 1) := by decide +kernel
theorem dX11_says_28 : decode cX11_says 28 = .ok (.iadd, 1) := by decide +kernel
theorem dX11_says_29 : decode cX11_says 29 = .ok (.iconst 1, 1) := by decide +kernel
theorem dX11_says_30 : decode cX11_says 30 = .ok (.iadd, 1) := by decide +kernel
theorem dX11_says_31 : decode cX11_says 31 = .ok (.iaload, 1) := by decide +kernel
theorem dX11_says_32 : decode cX11_says 32 = .ok (.if_icmp .ge 165, 3) := by decide +kernel
theorem dX11_says_35 : decode cX11_says 35 = .ok (.aload_n 0, 1) := by decide +kernel
theorem dX11_says_36 : decode cX11_says 36 = .ok (.getfield 25, 3) := by decide +kernel
theorem dX11_says_39 : decode cX11_says 39 = .ok (.sipush 200, 3) := by decide +kernel
theorem dX11_says_42 : decode cX11_says 42 = .ok (.aload_n 0, 1) := by decide +kernel
theorem dX11_says_43 : decode cX11_says 43 = .ok (.getfield 89, 3) := by decide +kernel
theorem dX11_says_46 : decode cX11_says 46 = .ok (.imul, 1) := by decide +kernel
theorem dX11_says_47 : decode cX11_says 47 = .ok (.iload_n 3, 1) := by decide +kernel
theorem dX11_says_48 : decode cX11_says 48 = .ok (.iadd, 1) := by decide +kernel
theorem dX11_says_49 : decode cX11_says 49 = .ok (.iaload, 1) := by decide +kernel
theorem dX11_says_50 : decode cX11_says 50 = .ok (.istore 4, 2) := by decide +kernel
theorem dX11_says_52 : decode cX11_says 52 = .ok (.iload 4, 2) := by decide +kernel
theorem dX11_says_54 : decode cX11_says 54 = .ok (.ldc 140, 2) := by decide +kernel
theorem dX11_says_56 : decode cX11_says 56 = .ok (.if_icmp .ge 10, 3) := by decide +kernel
theorem dX11_says_59 : decode cX11_says 59 = .ok (.iload 4, 2) := by decide +kernel
theorem dX11_says_61 : decode cX11_says 61 = .ok (.bipush 11, 2) := by decide +kernel
theorem dX11_says_63 : decode cX11_says 63 = .ok (.if_icmp .ge 37, 3) := by decide +kernel
theorem dX11_says_66 : decode cX11_says 66 = .ok (.aload_n 0, 1) := by decide +kernel
theorem dX11_says_67 : decode cX11_says 67 = .ok (.getfield 55, 3) := by decide +kernel
theorem dX11_says_70 : decode cX11_says 70 = .ok (.iload_n 2, 1) := by decide +kernel
theorem dX11_says_71 : decode cX11_says 71 = .ok (.iload 4, 2) := by decide +kernel
theorem dX11_says_73 : decode cX11_says 73 = .ok (.bipush 11, 2) := by decide +kernel
theorem dX11_says_75 : decode cX11_says 75 = .ok (.if_icmp .ge 13, 3) := by decide +kernel
theorem dX11_says_78 : decode cX11_says 78 = .ok (.aload_n 0, 1) := by decide +kernel
theorem dX11_says_79 : decode cX11_says 79 = .ok (.getfield 58, 3) := by decide +kernel
theorem dX11_says_82 : decode cX11_says 82 = .ok (.iload 4, 2) := by decide +kernel
theorem dX11_says_84 : decode cX11_says 84 = .ok (.iaload, 1) := by decide +kernel
theorem dX11_says_85 : decode cX11_says 85 = .ok (.goto 8, 3) := by decide +kernel
theorem dX11_says_88 : decode cX11_says 88 = .ok (.iload 4, 2) := by decide +kernel
theorem dX11_says_90 : decode cX11_says 90 = .ok (.ldc 140, 2) := by decide +kernel
theorem dX11_says_92 : decode cX11_says 92 = .ok (.isub, 1) := by decide +kernel
theorem dX11_says_93 : decode cX11_says 93 = .ok (.iastore, 1) := by decide +kernel
theorem dX11_says_94 : decode cX11_says 94 = .ok (.iinc 2 1, 3) := by decide +kernel
theorem dX11_says_97 : decode cX11_says 97 = .ok (.goto 94, 3) := by decide +kernel
theorem dX11_says_100 : decode cX11_says 100 = .ok (.iload 4, 2) := by decide +kernel
theorem dX11_says_102 : decode cX11_says 102 = .ok (.bipush 13, 2) := by decide +kernel
theorem dX11_says_104 : decode cX11_says 104 = .ok (.if_icmp .ne 30, 3) := by decide +kernel
theorem dX11_says_107 : decode cX11_says 107 = .ok (.aload_n 0, 1) := by decide +kernel
theorem dX11_says_108 : decode cX11_says 108 = .ok (.getfield 55, 3) := by decide +kernel
theorem dX11_says_111 : decode cX11_says 111 = .ok (.iload_n 2, 1) := by decide +kernel
theorem dX11_says_112 : decode cX11_says 112 = .ok (.iconst 1, 1) := by decide +kernel
theorem dX11_says_113 : decode cX11_says 113 = .ok (.isub, 1) := by decide +kernel
theorem dX11_says_114 : decode cX11_says 114 = .ok (.aload_n 0, 1) := by decide +kernel
theorem dX11_says_115 : decode cX11_says 115 = .ok (.getfield 55, 3) := by decide +kernel
theorem dX11_says_118 : decode cX11_says 118 = .ok (.iload_n 2, 1) := by decide +kernel
theorem dX11_says_119 : decode cX11_says 119 = .ok (.iconst 1, 1) := by decide +kernel
theorem dX11_says_120 : decode cX11_says 120 = .ok (.isub, 1) := by decide +kernel
theorem dX11_says_121 : decode cX11_says 121 = .ok (.iaload, 1) := by decide +kernel
theorem dX11_says_122 : decode cX11_says 122 = .ok (.ifCond .ne 7, 3) := by decide +kernel
theorem dX11_says_125 : decode cX11_says 125 = .ok (.iconst 1, 1) := by decide +kernel
theorem dX11_says_126 : decode cX11_says 126 = .ok (.goto 4, 3) := by decide +kernel
theorem dX11_says_129 : decode cX11_says 129 = .ok (.iconst 0, 1) := by decide +kernel
theorem dX11_says_130 : decode cX11_says 130 = .ok (.iastore, 1) := by decide +kernel
theorem dX11_says_131 : decode cX11_says 131 = .ok (.goto 60, 3) := by decide +kernel
theorem dX11_says_134 : decode cX11_says 134 = .ok (.iload 4, 2) := by decide +kernel
theorem dX11_says_136 : decode cX11_says 136 = .ok (.bipush 19, 2) := by decide +kernel
theorem dX11_says_138 : decode cX11_says 138 = .ok (.if_icmp .ne 23, 3) := by decide +kernel
theorem dX11_says_141 : decode cX11_says 141 = .ok (.aload_n 0, 1) := by decide +kernel
theorem dX11_says_142 : decode cX11_says 142 = .ok (.getfield 55, 3) := by decide +kernel
theorem dX11_says_145 : decode cX11_says 145 = .ok (.iload_n 2, 1) := by decide +kernel
theorem dX11_says_146 : decode cX11_says 146 = .ok (.iconst 1, 1) := by decide +kernel
theorem dX11_says_147 : decode cX11_says 147 = .ok (.isub, 1) := by decide +kernel
theorem dX11_says_148 : decode cX11_says 148 = .ok (.aload_n 0, 1) := by decide +kernel
theorem dX11_says_149 : decode cX11_says 149 = .ok (.getfield 55, 3) := by decide +kernel
theorem dX11_says_152 : decode cX11_says 152 = .ok (.iload_n 2, 1) := by decide +kernel
theorem dX11_says_153 : decode cX11_says 153 = .ok (.iconst 1, 1) := by decide +kernel
theorem dX11_says_154 : decode cX11_says 154 = .ok (.isub, 1) := by decide +kernel
theorem dX11_says_155 : decode cX11_says 155 = .ok (.iaload, 1) := by decide +kernel
theorem dX11_says_156 : decode cX11_says 156 = .ok (.ineg, 1) := by decide +kernel
theorem dX11_says_157 : decode cX11_says 157 = .ok (.iastore, 1) := by decide +kernel
theorem dX11_says_158 : decode cX11_says 158 = .ok (.goto 33, 3) := by decide +kernel
theorem dX11_says_161 : decode cX11_says 161 = .ok (.iinc 2 (-1), 3) := by decide +kernel
theorem dX11_says_164 : decode cX11_says 164 = .ok (.aload_n 0, 1) := by decide +kernel
theorem dX11_says_165 : decode cX11_says 165 = .ok (.getfield 55, 3) := by decide +kernel
theorem dX11_says_168 : decode cX11_says 168 = .ok (.iload_n 2, 1) := by decide +kernel
theorem dX11_says_169 : decode cX11_says 169 = .ok (.iconst 1, 1) := by decide +kernel
theorem dX11_says_170 : decode cX11_says 170 = .ok (.isub, 1) := by decide +kernel
theorem dX11_says_171 : decode cX11_says 171 = .ok (.iload 4, 2) := by decide +kernel
theorem dX11_says_173 : decode cX11_says 173 = .ok (.aload_n 0, 1) := by decide +kernel
theorem dX11_says_174 : decode cX11_says 174 = .ok (.getfield 55, 3) := by decide +kernel
theorem dX11_says_177 : decode cX11_says 177 = .ok (.iload_n 2, 1) := by decide +kernel
theorem dX11_says_178 : decode cX11_says 178 = .ok (.iconst 1, 1) := by decide +kernel
theorem dX11_says_179 : decode cX11_says 179 = .ok (.isub, 1) := by decide +kernel
theorem dX11_says_180 : decode cX11_says 180 = .ok (.iaload, 1) := by decide +kernel
theorem dX11_says_181 : decode cX11_says 181 = .ok (.aload_n 0, 1) := by decide +kernel
theorem dX11_says_182 : decode cX11_says 182 = .ok (.getfield 55, 3) := by decide +kernel
theorem dX11_says_185 : decode cX11_says 185 = .ok (.iload_n 2, 1) := by decide +kernel
theorem dX11_says_186 : decode cX11_says 186 = .ok (.iaload, 1) := by decide +kernel
theorem dX11_says_187 : decode cX11_says 187 = .ok (.invokestatic 154, 3) := by decide +kernel
theorem dX11_says_190 : decode cX11_says 190 = .ok (.iastore, 1) := by decide +kernel
theorem dX11_says_191 : decode cX11_says 191 = .ok (.iinc 3 1, 3) := by decide +kernel
theorem dX11_says_194 : decode cX11_says 194 = .ok (.goto (-178), 3) := by decide +kernel
theorem dX11_says_197 : decode cX11_says 197 = .ok (.aload_n 0, 1) := by decide +kernel
theorem dX11_says_198 : decode cX11_says 198 = .ok (.getfield 55, 3) := by decide +kernel
theorem dX11_says_201 : decode cX11_says 201 = .ok (.iconst 0, 1) := by decide +kernel
theorem dX11_says_202 : decode cX11_says 202 = .ok (.iaload, 1) := by decide +kernel
theorem dX11_says_203 : decode cX11_says 203 = .ok (.ireturn, 1) := by decide +kernel
set_option maxHeartbeats 4000000 in
set_option maxRecDepth 100000 in
theorem c_X11_says (d : Nat) (TX : gTX) (l j : Nat) (hl6 : l < 6) (hj : j < 3) (pt : Int32) (hpt : pt = nI j) (s : gS) (hlaw : s 0 10 = nI l) (hT : mT TX s l) (hH : x_ht (TX l j) 0 = some 1) : gMt SM yX11_says cX11_says 5 (some .int) (d + 2) (fun ad => [.ref (ad 0), .int pt]) s (gQi SM (fun r s' => Fr (fun q => q = 16) s s' ∧ r = x_say (s 17) (TX l j))) := by
  have h160 := mT_len hT hj
  have hbE := x_begE (TX := TX) (t := l) hj
  have hbS : x_beg TX l (j + 1) = x_end TX l j := rfl
  refine gMt_of SM_ok (by decide +kernel) (fun ad => [some (.ref (ad 0)), some (.int pt), none, none, none]) (fun _ => rfl) (fun _ => rfl) (fun _ => Nat.le_of_ble_eq_true rfl) (fun E C0 => ?_)
  have C : gCx SM E RX11 cX11_says 5 (some .int) (d + 2) := C0
  have f : Fr (fun q => q = 16) s s := Fr.rf
  refine G_iconst (v := 0) C 1 dX11_says_0 rfl rfl ?_
  refine G_istore_n (i := 2) (L' := [some (.ref (e_ad E 0)), some (.int pt), some (.int 0), none, none]) C 2 dX11_says_1 rfl rfl (Nat.le_of_ble_eq_true rfl) rfl rfl ?_
  refine G_aload_n (i := 0) C 3 dX11_says_2 rfl rfl rfl ?_
  refine X11_28g C 6 dX11_says_3 rfl ?_
  refine G_iconst (v := 4) C 7 dX11_says_6 rfl rfl ?_
  refine G_aload_n (i := 0) C 8 dX11_says_7 rfl rfl rfl ?_
  refine X11_89g C 11 dX11_says_8 rfl (fun x8 ex8 => ?_)
  have Sx8 : x8 = nI l := ex8.trans ((congrFun (f _ (by omega)) _).trans hlaw)
  refine G_imul C 12 dX11_says_11 rfl (fun x11 ex11 => ?_)
  have Nx11 : x11 = nI (4 * l) := g_mulN ex11 rfl Sx8
  refine G_iload_n (i := 1) C 13 dX11_says_12 rfl rfl rfl ?_
  refine G_iadd C 14 dX11_says_13 rfl (fun x13 ex13 => ?_)
  have Nx13 : x13 = nI ((4 * l) + j) := g_addN ex13 Nx11 hpt
  refine G_iald (n := 24) C 15 (by decide) (eMk (by decide) _ _ _) (((4 * l) + j)) Nx13 (by omega) (by decide) dX11_says_14 rfl (fun x14 ex14 => ?_)
  have Sx14 : x14 = nI (x_beg TX l j) := ex14.trans ((congrFun (f _ (by omega)) _).trans (hT.1 j (by omega)))
  refine G_istore_n (i := 3) (L' := [some (.ref (e_ad E 0)), some (.int pt), some (.int 0), some (.int x14), none]) C 16 dX11_says_15 rfl rfl (Nat.le_of_ble_eq_true rfl) rfl rfl ?_
  have L16 : ∀ (f16 : Nat) (k : Nat) (stk : List Int32) (top q : Int32) (sl16 : gS) (Etop : top = nI (stk.length)) (Eq : q = nI ((x_beg TX l j + k))) (hk : k ≤ (TX l j).length) (hl : stk.length ≤ k) (hev : x_ev (s 17) ((TX l j).drop k) stk = x_ev (s 17) (TX l j) []) (hht : x_ht ((TX l j).drop k) stk.length = some 1) (hs : x_stk (sl16 16) stk) (fl16 : Fr (fun q => q = 16) s sl16), (TX l j).length < k + f16 → GW SM E (gFin SM E (gQi SM (fun r s' => Fr (fun q => q = 16) s s' ∧ r = x_say (s 17) (TX l j)))) 16 [some (.ref (e_ad E 0)), some (.int pt), some (.int top), some (.int q), none] [] sl16 := by
    intro f16
    induction f16 with
    | zero =>
      intro k stk top q sl16 Etop Eq hk hl hev hht hs fl16 hf16
      exact absurd hf16 (by omega)
    | succ f16 ih16 =>
      intro k stk top q sl16 Etop Eq hk hl hev hht hs fl16 hf16
      refine G_iload_n (i := 3) C 17 dX11_says_16 rfl rfl rfl ?_
      refine G_aload_n (i := 0) C 18 dX11_says_17 rfl rfl rfl ?_
      refine X11_28g C 21 dX11_says_18 rfl ?_
      refine G_iconst (v := 4) C 22 dX11_says_21 rfl rfl ?_
      refine G_aload_n (i := 0) C 23 dX11_says_22 rfl rfl rfl ?_
      refine X11_89g C 26 dX11_says_23 rfl (fun x23 ex23 => ?_)
      have Sx23 : x23 = nI l := ex23.trans ((congrFun (fl16 _ (by omega)) _).trans hlaw)
      refine G_imul C 27 dX11_says_26 rfl (fun x26 ex26 => ?_)
      have Nx26 : x26 = nI (4 * l) := g_mulN ex26 rfl Sx23
      refine G_iload_n (i := 1) C 28 dX11_says_27 rfl rfl rfl ?_
      refine G_iadd C 29 dX11_says_28 rfl (fun x28 ex28 => ?_)
      have Nx28 : x28 = nI ((4 * l) + j) := g_addN ex28 Nx26 hpt
      refine G_iconst (v := 1) C 30 dX11_says_29 rfl rfl ?_
      refine G_iadd C 31 dX11_says_30 rfl (fun x30 ex30 => ?_)
      have Nx30 : x30 = nI (((4 * l) + j) + 1) := g_addN ex30 Nx28 rfl
      refine G_iald (n := 24) C 32 (by decide) (eMk (by decide) _ _ _) ((((4 * l) + j) + 1)) Nx30 (by omega) (by decide) dX11_says_31 rfl (fun x31 ex31 => ?_)
      have Sx31 : x31 = nI (x_beg TX l (j + 1)) := ex31.trans ((congrFun (fl16 _ (by omega)) _).trans (hT.1 (j + 1) (by omega)))
      refine G_icmp_ge C 197 35 dX11_says_32 rfl rfl (fun c32 => ?_) (fun c32 => ?_)
      ·
        have n32 : ¬ (x_beg TX l j + k) < (x_beg TX l (j + 1)) := fun h => c32 ((g_ltN (a := (x_beg TX l j + k)) (b := (x_beg TX l (j + 1))) (hx := Eq) (hy := Sx31) (by omega) (by omega)).mpr h)
        refine G_aload_n (i := 0) C 198 dX11_says_197 rfl rfl rfl ?_
        refine X11_55g C 201 dX11_says_198 rfl ?_
        refine G_iconst (v := 0) C 202 dX11_says_201 rfl rfl ?_
        refine G_iald (n := 200) C 203 (by decide) (eMk (by decide) _ _ _) (0) rfl (by omega) (by decide) dX11_says_202 rfl (fun x202 ex202 => ?_)
        exact G_iret C dX11_says_203 (⟨fl16, by
            have e0 : (TX l j).drop k = [] := List.drop_eq_nil_of_le (by omega)
            rw [e0] at hev hht
            have e1 : stk.length = 1 := Option.some.inj hht
            obtain ⟨a, rfl⟩ := List.length_eq_one_iff.mp e1
            have e2 : x_say (s 17) (TX l j) = a := by
              unfold x_say
              rw [← hev]
              rfl
            rw [e2]
            exact ex202.trans hs.1⟩)
      ·
        have n32 : (x_beg TX l j + k) < (x_beg TX l (j + 1)) := (g_ltN (a := (x_beg TX l j + k)) (b := (x_beg TX l (j + 1))) (hx := Eq) (hy := Sx31) (by omega) (by omega)).mp c32
        obtain ⟨c, hc⟩ : ∃ c, (TX l j)[k]? = some c := ⟨_, List.getElem?_eq_getElem (by omega)⟩
        obtain ⟨ok, htk, hht2⟩ := x_ht_drop hc hht
        have htk2 := x_tk2 c
        have ok2 := ok
        unfold x_ok at ok2
        refine G_aload_n (i := 0) C 36 dX11_says_35 rfl rfl rfl ?_
        refine X11_25g C 39 dX11_says_36 rfl ?_
        refine G_sipush (v := 200) C 42 dX11_says_39 rfl rfl ?_
        refine G_aload_n (i := 0) C 43 dX11_says_42 rfl rfl rfl ?_
        refine X11_89g C 46 dX11_says_43 rfl (fun x43 ex43 => ?_)
        have Sx43 : x43 = nI l := ex43.trans ((congrFun (fl16 _ (by omega)) _).trans hlaw)
        refine G_imul C 47 dX11_says_46 rfl (fun x46 ex46 => ?_)
        have Nx46 : x46 = nI (200 * l) := g_mulN ex46 rfl Sx43
        refine G_iload_n (i := 3) C 48 dX11_says_47 rfl rfl rfl ?_
        refine G_iadd C 49 dX11_says_48 rfl (fun x48 ex48 => ?_)
        have Nx48 : x48 = nI ((200 * l) + (x_beg TX l j + k)) := g_addN ex48 Nx46 Eq
        refine G_iald (n := 1200) C 50 (by decide) (eMk (by decide) _ _ _) (((200 * l) + (x_beg TX l j + k))) Nx48 (by omega) (by decide) dX11_says_49 rfl (fun x49 ex49 => ?_)
        have Sx49 : x49 = nI c := ex49.trans ((congrFun (fl16 _ (by omega)) _).trans (mT_step hT hj hc))
        refine G_istore (L' := [some (.ref (e_ad E 0)), some (.int pt), some (.int top), some (.int q), some (.int x49)]) C 52 dX11_says_50 rfl (Nat.le_of_ble_eq_true rfl) rfl rfl ?_
        refine G_iload C 54 dX11_says_52 rfl rfl ?_
        refine G_ldc (v := 100000) C 56 w_845 dX11_says_54 rfl ?_
        refine G_icmp_ge C 66 59 dX11_says_56 rfl rfl (fun c56 => ?_) (fun c56 => ?_)
        ·
          have n56 : ¬ c < 100000 := fun h => c56 ((g_ltN (a := c) (b := 100000) (hx := Sx49) (hy := rfl) (by omega) (by omega)).mpr h)
          refine G_aload_n (i := 0) C 67 dX11_says_66 rfl rfl rfl ?_
          refine X11_55g C 70 dX11_says_67 rfl ?_
          refine G_iload_n (i := 2) C 71 dX11_says_70 rfl rfl rfl ?_
          refine G_iload C 73 dX11_says_71 rfl rfl ?_
          refine G_bipush (v := 11) C 75 dX11_says_73 rfl rfl ?_
          refine G_icmp_ge C 88 78 dX11_says_75 rfl rfl (fun c75 => ?_) (fun c75 => ?_)
          ·
            have n75 : ¬ c < 11 := fun h => c75 ((g_ltN (a := c) (b := 11) (hx := Sx49) (hy := rfl) (by omega) (by omega)).mpr h)
            have ktk : x_tk c = 0 := x_tk_num (Or.inl (by omega))
            refine G_iload C 90 dX11_says_88 rfl rfl ?_
            refine G_ldc (v := 100000) C 92 w_845 dX11_says_90 rfl ?_
            refine G_isub C 93 dX11_says_92 rfl (fun x92 ex92 => ?_)
            have Nx92 : x92 = nI (c - 100000) := g_subN ex92 Sx49 rfl (by omega)
            refine G_iast (n := 200) C 94 (by decide) (fun σ => eMk (by decide) _ _ σ) (stk.length) Etop (by omega) (by decide) (Nat.le_refl _) dX11_says_93 rfl (fun s93 es93 => ?_)
            have f_1 : Fr (fun q => q = 16) s s93 := Fr.tr fl16 (Fr.up es93 rfl)
            refine G_iinc (w := 1) C 97 dX11_says_94 rfl rfl rfl rfl (fun x94 ex94 => ?_)
            have Nx94 : x94 = nI (stk.length + 1) := g_addN ex94 Etop rfl
            show GW SM E _ 97 [some (.ref (e_ad E 0)), some (.int pt), some (.int x94), some (.int q), some (.int x49)] [] s93
            refine G_goto C 191 dX11_says_97 rfl ?_
            refine G_iinc (w := 1) C 194 dX11_says_191 rfl rfl rfl rfl (fun x191 ex191 => ?_)
            have Nx191 : x191 = nI ((x_beg TX l j + k) + 1) := g_addN ex191 Eq rfl
            show GW SM E _ 194 [some (.ref (e_ad E 0)), some (.int pt), some (.int x94), some (.int x191), some (.int x49)] [] s93
            refine G_goto C 16 dX11_says_194 rfl ?_
            refine G_drop (L' := [some (.ref (e_ad E 0)), some (.int pt), some (.int x94), some (.int x191), none]) ⟨rfl, rfl, rfl, rfl, trivial⟩ ?_
            have hwo : x92 = x_wo (s 17) c 0 0 := by rw [x_wo_num (by omega)]; exact Nx92
            have hst : x_st (s 17) c stk = x92 :: stk.drop (x_tk c) := by rw [hwo]; exact x_st_all hs ok htk 0 0 (fun q => absurd q (by omega)) (fun q => absurd q (by omega))
            exact ih16 (k + 1) (x92 :: stk.drop (x_tk c)) x94 x191 s93 (g_cn (a := (stk.length + 1)) Nx94 (by first | rfl | omega | (simp only [List.length_cons, List.length_drop]; done) | (simp only [List.length_cons, List.length_drop]; omega))) (g_cn (a := ((x_beg TX l j + k) + 1)) Nx191 (by first | rfl | omega | (simp only [List.length_cons, List.length_drop]; done) | (simp only [List.length_cons, List.length_drop]; omega))) (by omega) (by simp only [List.length_cons, List.length_drop]; omega) (by rw [← hst, ← x_ev_drop hc]; exact hev) (by simp only [List.length_cons, List.length_drop]; exact hht2) (by rw [es93]; unfold g_up; rw [g_set_s]; have e9 : (stk.drop (x_tk c)).length = stk.length - x_tk c := List.length_drop; rw [ktk] at e9 ⊢; first | exact x_stk_push hs | (rw [show stk.length - 1 - 1 = stk.length - 2 by omega, ← e9]; exact x_stk_push (x_stk_drop hs)) | (rw [← e9]; exact x_stk_push (x_stk_drop hs))) f_1 (by omega)
          ·
            have n75 : c < 11 := (g_ltN (a := c) (b := 11) (hx := Sx49) (hy := rfl) (by omega) (by omega)).mp c75
            exfalso; omega
        ·
          have n56 : c < 100000 := (g_ltN (a := c) (b := 100000) (hx := Sx49) (hy := rfl) (by omega) (by omega)).mp c56
          refine G_iload C 61 dX11_says_59 rfl rfl ?_
          refine G_bipush (v := 11) C 63 dX11_says_61 rfl rfl ?_
          refine G_icmp_ge C 100 66 dX11_says_63 rfl rfl (fun c63 => ?_) (fun c63 => ?_)
          ·
            have n63 : ¬ c < 11 := fun h => c63 ((g_ltN (a := c) (b := 11) (hx := Sx49) (hy := rfl) (by omega) (by omega)).mpr h)
            refine G_iload C 102 dX11_says_100 rfl rfl ?_
            refine G_bipush (v := 13) C 104 dX11_says_102 rfl rfl ?_
            refine G_icmp_ne C 134 107 dX11_says_104 rfl rfl (fun c104 => ?_) (fun c104 => ?_)
            ·
              have n104 : ¬ c = 13 := fun h => c104 ((g_eqN (a := c) (b := 13) (hx := Sx49) (hy := rfl) (by omega) (by omega)).mpr h)
              refine G_iload C 136 dX11_says_134 rfl rfl ?_
              refine G_bipush (v := 19) C 138 dX11_says_136 rfl rfl ?_
              refine G_icmp_ne C 161 141 dX11_says_138 rfl rfl (fun c138 => ?_) (fun c138 => ?_)
              ·
                have n138 : ¬ c = 19 := fun h => c138 ((g_eqN (a := c) (b := 19) (hx := Sx49) (hy := rfl) (by omega) (by omega)).mpr h)
                have ktk : x_tk c = 2 := x_tk_bin ok (by omega) (by omega) (by omega) (by omega)
                refine G_iinc (w := (-1)) C 164 dX11_says_161 rfl rfl rfl rfl (fun x161 ex161 => ?_)
                have Nx161 : x161 = nI (stk.length - 1) := g_decN ex161 Etop (by omega)
                show GW SM E _ 164 [some (.ref (e_ad E 0)), some (.int pt), some (.int x161), some (.int q), some (.int x49)] [] sl16
                refine G_aload_n (i := 0) C 165 dX11_says_164 rfl rfl rfl ?_
                refine X11_55g C 168 dX11_says_165 rfl ?_
                refine G_iload_n (i := 2) C 169 dX11_says_168 rfl rfl rfl ?_
                refine G_iconst (v := 1) C 170 dX11_says_169 rfl rfl ?_
                refine G_isub C 171 dX11_says_170 rfl (fun x170 ex170 => ?_)
                have Nx170 : x170 = nI (stk.length - 1 - 1) := g_subN ex170 Nx161 rfl (by omega)
                refine G_iload C 173 dX11_says_171 rfl rfl ?_
                refine G_aload_n (i := 0) C 174 dX11_says_173 rfl rfl rfl ?_
                refine X11_55g C 177 dX11_says_174 rfl ?_
                refine G_iload_n (i := 2) C 178 dX11_says_177 rfl rfl rfl ?_
                refine G_iconst (v := 1) C 179 dX11_says_178 rfl rfl ?_
                refine G_isub C 180 dX11_says_179 rfl (fun x179 ex179 => ?_)
                have Nx179 : x179 = nI (stk.length - 1 - 1) := g_subN ex179 Nx161 rfl (by omega)
                refine G_iald (n := 200) C 181 (by decide) (eMk (by decide) _ _ _) ((stk.length - 1 - 1)) Nx179 (by omega) (by decide) dX11_says_180 rfl (fun x180 ex180 => ?_)
                refine G_aload_n (i := 0) C 182 dX11_says_181 rfl rfl rfl ?_
                refine X11_55g C 185 dX11_says_182 rfl ?_
                refine G_iload_n (i := 2) C 186 dX11_says_185 rfl rfl rfl ?_
                refine G_iald (n := 200) C 187 (by decide) (eMk (by decide) _ _ _) ((stk.length - 1)) Nx161 (by omega) (by decide) dX11_says_186 rfl (fun x186 ex186 => ?_)
                refine G_calli 190 (G_runS C Kc_X11_two KS_X11_154 (by omega) (c_X11_two 0 c (by omega) x49 x180 x186 Sx49 sl16) rfl rfl (Nat.le_of_ble_eq_true rfl) rfl dX11_says_187) rfl (fun x187 s187 h187 => ?_)
                obtain ⟨es187, h187⟩ := h187
                have es187 := es187.symm
                subst es187
                refine G_iast (n := 200) C 191 (by decide) (fun σ => eMk (by decide) _ _ σ) ((stk.length - 1 - 1)) Nx170 (by omega) (by decide) (Nat.le_refl _) dX11_says_190 rfl (fun s190 es190 => ?_)
                have f_1 : Fr (fun q => q = 16) s s190 := Fr.tr fl16 (Fr.up es190 rfl)
                refine G_iinc (w := 1) C 194 dX11_says_191 rfl rfl rfl rfl (fun x191 ex191 => ?_)
                have Nx191 : x191 = nI ((x_beg TX l j + k) + 1) := g_addN ex191 Eq rfl
                show GW SM E _ 194 [some (.ref (e_ad E 0)), some (.int pt), some (.int x161), some (.int x191), some (.int x49)] [] s190
                refine G_goto C 16 dX11_says_194 rfl ?_
                refine G_drop (L' := [some (.ref (e_ad E 0)), some (.int pt), some (.int x161), some (.int x191), none]) ⟨rfl, rfl, rfl, rfl, trivial⟩ ?_
                have hwo : x187 = x_wo (s 17) c x180 x186 := by rw [h187]; exact (x_wo_bin (by omega) (by omega) (by omega) (by omega)).symm
                have hst : x_st (s 17) c stk = x187 :: stk.drop (x_tk c) := by rw [hwo]; exact x_st_all hs ok htk x180 x186 (fun _ => by rw [ktk]; exact ex180) (fun _ => by rw [ktk, show stk.length - 2 + 1 = stk.length - 1 by omega]; exact ex186)
                exact ih16 (k + 1) (x187 :: stk.drop (x_tk c)) x161 x191 s190 (g_cn (a := (stk.length - 1)) Nx161 (by first | rfl | omega | (simp only [List.length_cons, List.length_drop]; done) | (simp only [List.length_cons, List.length_drop]; omega))) (g_cn (a := ((x_beg TX l j + k) + 1)) Nx191 (by first | rfl | omega | (simp only [List.length_cons, List.length_drop]; done) | (simp only [List.length_cons, List.length_drop]; omega))) (by omega) (by simp only [List.length_cons, List.length_drop]; omega) (by rw [← hst, ← x_ev_drop hc]; exact hev) (by simp only [List.length_cons, List.length_drop]; exact hht2) (by rw [es190]; unfold g_up; rw [g_set_s]; have e9 : (stk.drop (x_tk c)).length = stk.length - x_tk c := List.length_drop; rw [ktk] at e9 ⊢; first | exact x_stk_push hs | (rw [show stk.length - 1 - 1 = stk.length - 2 by omega, ← e9]; exact x_stk_push (x_stk_drop hs)) | (rw [← e9]; exact x_stk_push (x_stk_drop hs))) f_1 (by omega)
              ·
                have n138 : c = 19 := (g_eqN (a := c) (b := 19) (hx := Sx49) (hy := rfl) (by omega) (by omega)).mp c138
                have ktk : x_tk c = 1 := (by have e : c = 19 := (by omega); rw [e]; rfl)
                refine G_aload_n (i := 0) C 142 dX11_says_141 rfl rfl rfl ?_
                refine X11_55g C 145 dX11_says_142 rfl ?_
                refine G_iload_n (i := 2) C 146 dX11_says_145 rfl rfl rfl ?_
                refine G_iconst (v := 1) C 147 dX11_says_146 rfl rfl ?_
                refine G_isub C 148 dX11_says_147 rfl (fun x147 ex147 => ?_)
                have Nx147 : x147 = nI (stk.length - 1) := g_subN ex147 Etop rfl (by omega)
                refine G_aload_n (i := 0) C 149 dX11_says_148 rfl rfl rfl ?_
                refine X11_55g C 152 dX11_says_149 rfl ?_
                refine G_iload_n (i := 2) C 153 dX11_says_152 rfl rfl rfl ?_
                refine G_iconst (v := 1) C 154 dX11_says_153 rfl rfl ?_
                refine G_isub C 155 dX11_says_154 rfl (fun x154 ex154 => ?_)
                have Nx154 : x154 = nI (stk.length - 1) := g_subN ex154 Etop rfl (by omega)
                refine G_iald (n := 200) C 156 (by decide) (eMk (by decide) _ _ _) ((stk.length - 1)) Nx154 (by omega) (by decide) dX11_says_155 rfl (fun x155 ex155 => ?_)
                refine G_ineg C 157 dX11_says_156 rfl (fun x156 ex156 => ?_)
                refine G_iast (n := 200) C 158 (by decide) (fun σ => eMk (by decide) _ _ σ) ((stk.length - 1)) Nx147 (by omega) (by decide) (Nat.le_refl _) dX11_says_157 rfl (fun s157 es157 => ?_)
                have f_1 : Fr (fun q => q = 16) s s157 := Fr.tr fl16 (Fr.up es157 rfl)
                refine G_goto C 191 dX11_says_158 rfl ?_
                refine G_iinc (w := 1) C 194 dX11_says_191 rfl rfl rfl rfl (fun x191 ex191 => ?_)
                have Nx191 : x191 = nI ((x_beg TX l j + k) + 1) := g_addN ex191 Eq rfl
                show GW SM E _ 194 [some (.ref (e_ad E 0)), some (.int pt), some (.int top), some (.int x191), some (.int x49)] [] s157
                refine G_goto C 16 dX11_says_194 rfl ?_
                refine G_drop (L' := [some (.ref (e_ad E 0)), some (.int pt), some (.int top), some (.int x191), none]) ⟨rfl, rfl, rfl, rfl, trivial⟩ ?_
                have hwo : x156 = x_wo (s 17) c x155 0 := by have e : c = 19 := (by omega); rw [e, ex156]; rfl
                have hst : x_st (s 17) c stk = x156 :: stk.drop (x_tk c) := by rw [hwo]; exact x_st_all hs ok htk x155 0 (fun _ => by rw [ktk]; exact ex155) (fun q => absurd q (by omega))
                exact ih16 (k + 1) (x156 :: stk.drop (x_tk c)) top x191 s157 (g_cn (a := stk.length) Etop (by first | rfl | omega | (simp only [List.length_cons, List.length_drop]; done) | (simp only [List.length_cons, List.length_drop]; omega))) (g_cn (a := ((x_beg TX l j + k) + 1)) Nx191 (by first | rfl | omega | (simp only [List.length_cons, List.length_drop]; done) | (simp only [List.length_cons, List.length_drop]; omega))) (by omega) (by simp only [List.length_cons, List.length_drop]; omega) (by rw [← hst, ← x_ev_drop hc]; exact hev) (by simp only [List.length_cons, List.length_drop]; exact hht2) (by rw [es157]; unfold g_up; rw [g_set_s]; have e9 : (stk.drop (x_tk c)).length = stk.length - x_tk c := List.length_drop; rw [ktk] at e9 ⊢; first | exact x_stk_push hs | (rw [show stk.length - 1 - 1 = stk.length - 2 by omega, ← e9]; exact x_stk_push (x_stk_drop hs)) | (rw [← e9]; exact x_stk_push (x_stk_drop hs))) f_1 (by omega)
            ·
              have n104 : c = 13 := (g_eqN (a := c) (b := 13) (hx := Sx49) (hy := rfl) (by omega) (by omega)).mp c104
              have ktk : x_tk c = 1 := (by have e : c = 13 := (by omega); rw [e]; rfl)
              refine G_aload_n (i := 0) C 108 dX11_says_107 rfl rfl rfl ?_
              refine X11_55g C 111 dX11_says_108 rfl ?_
              refine G_iload_n (i := 2) C 112 dX11_says_111 rfl rfl rfl ?_
              refine G_iconst (v := 1) C 113 dX11_says_112 rfl rfl ?_
              refine G_isub C 114 dX11_says_113 rfl (fun x113 ex113 => ?_)
              have Nx113 : x113 = nI (stk.length - 1) := g_subN ex113 Etop rfl (by omega)
              refine G_aload_n (i := 0) C 115 dX11_says_114 rfl rfl rfl ?_
              refine X11_55g C 118 dX11_says_115 rfl ?_
              refine G_iload_n (i := 2) C 119 dX11_says_118 rfl rfl rfl ?_
              refine G_iconst (v := 1) C 120 dX11_says_119 rfl rfl ?_
              refine G_isub C 121 dX11_says_120 rfl (fun x120 ex120 => ?_)
              have Nx120 : x120 = nI (stk.length - 1) := g_subN ex120 Etop rfl (by omega)
              refine G_iald (n := 200) C 122 (by decide) (eMk (by decide) _ _ _) ((stk.length - 1)) Nx120 (by omega) (by decide) dX11_says_121 rfl (fun x121 ex121 => ?_)
              refine G_if_ne C 129 125 dX11_says_122 rfl rfl (fun c122 => ?_) (fun c122 => ?_)
              ·
                refine G_iconst (v := 0) C 130 dX11_says_129 rfl rfl ?_
                refine G_iast (n := 200) C 131 (by decide) (fun σ => eMk (by decide) _ _ σ) ((stk.length - 1)) Nx113 (by omega) (by decide) (Nat.le_refl _) dX11_says_130 rfl (fun s130 es130 => ?_)
                have f_1 : Fr (fun q => q = 16) s s130 := Fr.tr fl16 (Fr.up es130 rfl)
                refine G_goto C 191 dX11_says_131 rfl ?_
                refine G_iinc (w := 1) C 194 dX11_says_191 rfl rfl rfl rfl (fun x191 ex191 => ?_)
                have Nx191 : x191 = nI ((x_beg TX l j + k) + 1) := g_addN ex191 Eq rfl
                show GW SM E _ 194 [some (.ref (e_ad E 0)), some (.int pt), some (.int top), some (.int x191), some (.int x49)] [] s130
                refine G_goto C 16 dX11_says_194 rfl ?_
                refine G_drop (L' := [some (.ref (e_ad E 0)), some (.int pt), some (.int top), some (.int x191), none]) ⟨rfl, rfl, rfl, rfl, trivial⟩ ?_
                have hwo : 0 = x_wo (s 17) c x121 0 := by have e : c = 13 := (by omega); rw [e]; show 0 = if x121 = 0 then 1 else 0; simp [c122]
                have hst : x_st (s 17) c stk = 0 :: stk.drop (x_tk c) := by rw [hwo]; exact x_st_all hs ok htk x121 0 (fun _ => by rw [ktk]; exact ex121) (fun q => absurd q (by omega))
                exact ih16 (k + 1) (0 :: stk.drop (x_tk c)) top x191 s130 (g_cn (a := stk.length) Etop (by first | rfl | omega | (simp only [List.length_cons, List.length_drop]; done) | (simp only [List.length_cons, List.length_drop]; omega))) (g_cn (a := ((x_beg TX l j + k) + 1)) Nx191 (by first | rfl | omega | (simp only [List.length_cons, List.length_drop]; done) | (simp only [List.length_cons, List.length_drop]; omega))) (by omega) (by simp only [List.length_cons, List.length_drop]; omega) (by rw [← hst, ← x_ev_drop hc]; exact hev) (by simp only [List.length_cons, List.length_drop]; exact hht2) (by rw [es130]; unfold g_up; rw [g_set_s]; have e9 : (stk.drop (x_tk c)).length = stk.length - x_tk c := List.length_drop; rw [ktk] at e9 ⊢; first | exact x_stk_push hs | (rw [show stk.length - 1 - 1 = stk.length - 2 by omega, ← e9]; exact x_stk_push (x_stk_drop hs)) | (rw [← e9]; exact x_stk_push (x_stk_drop hs))) f_1 (by omega)
              ·
                refine G_iconst (v := 1) C 126 dX11_says_125 rfl rfl ?_
                refine G_goto C 130 dX11_says_126 rfl ?_
                refine G_iast (n := 200) C 131 (by decide) (fun σ => eMk (by decide) _ _ σ) ((stk.length - 1)) Nx113 (by omega) (by decide) (Nat.le_refl _) dX11_says_130 rfl (fun s130 es130 => ?_)
                have f_1 : Fr (fun q => q = 16) s s130 := Fr.tr fl16 (Fr.up es130 rfl)
                refine G_goto C 191 dX11_says_131 rfl ?_
                refine G_iinc (w := 1) C 194 dX11_says_191 rfl rfl rfl rfl (fun x191 ex191 => ?_)
                have Nx191 : x191 = nI ((x_beg TX l j + k) + 1) := g_addN ex191 Eq rfl
                show GW SM E _ 194 [some (.ref (e_ad E 0)), some (.int pt), some (.int top), some (.int x191), some (.int x49)] [] s130
                refine G_goto C 16 dX11_says_194 rfl ?_
                refine G_drop (L' := [some (.ref (e_ad E 0)), some (.int pt), some (.int top), some (.int x191), none]) ⟨rfl, rfl, rfl, rfl, trivial⟩ ?_
                have hwo : 1 = x_wo (s 17) c x121 0 := by have e : c = 13 := (by omega); rw [e]; show 1 = if x121 = 0 then 1 else 0; simp [c122]
                have hst : x_st (s 17) c stk = 1 :: stk.drop (x_tk c) := by rw [hwo]; exact x_st_all hs ok htk x121 0 (fun _ => by rw [ktk]; exact ex121) (fun q => absurd q (by omega))
                exact ih16 (k + 1) (1 :: stk.drop (x_tk c)) top x191 s130 (g_cn (a := stk.length) Etop (by first | rfl | omega | (simp only [List.length_cons, List.length_drop]; done) | (simp only [List.length_cons, List.length_drop]; omega))) (g_cn (a := ((x_beg TX l j + k) + 1)) Nx191 (by first | rfl | omega | (simp only [List.length_cons, List.length_drop]; done) | (simp only [List.length_cons, List.length_drop]; omega))) (by omega) (by simp only [List.length_cons, List.length_drop]; omega) (by rw [← hst, ← x_ev_drop hc]; exact hev) (by simp only [List.length_cons, List.length_drop]; exact hht2) (by rw [es130]; unfold g_up; rw [g_set_s]; have e9 : (stk.drop (x_tk c)).length = stk.length - x_tk c := List.length_drop; rw [ktk] at e9 ⊢; first | exact x_stk_push hs | (rw [show stk.length - 1 - 1 = stk.length - 2 by omega, ← e9]; exact x_stk_push (x_stk_drop hs)) | (rw [← e9]; exact x_stk_push (x_stk_drop hs))) f_1 (by omega)
          ·
            have n63 : c < 11 := (g_ltN (a := c) (b := 11) (hx := Sx49) (hy := rfl) (by omega) (by omega)).mp c63
            refine G_aload_n (i := 0) C 67 dX11_says_66 rfl rfl rfl ?_
            refine X11_55g C 70 dX11_says_67 rfl ?_
            refine G_iload_n (i := 2) C 71 dX11_says_70 rfl rfl rfl ?_
            refine G_iload C 73 dX11_says_71 rfl rfl ?_
            refine G_bipush (v := 11) C 75 dX11_says_73 rfl rfl ?_
            refine G_icmp_ge C 88 78 dX11_says_75 rfl rfl (fun c75 => ?_) (fun c75 => ?_)
            ·
              have n75 : ¬ c < 11 := fun h => c75 ((g_ltN (a := c) (b := 11) (hx := Sx49) (hy := rfl) (by omega) (by omega)).mpr h)
              exfalso; omega
            ·
              have n75 : c < 11 := (g_ltN (a := c) (b := 11) (hx := Sx49) (hy := rfl) (by omega) (by omega)).mp c75
              have ktk : x_tk c = 0 := x_tk_num (Or.inr (by omega))
              refine G_aload_n (i := 0) C 79 dX11_says_78 rfl rfl rfl ?_
              refine X11_58g C 82 dX11_says_79 rfl ?_
              refine G_iload C 84 dX11_says_82 rfl rfl ?_
              refine G_iald (n := 6) C 85 (by decide) (eMk (by decide) _ _ _) (c) Sx49 (by omega) (by decide) dX11_says_84 rfl (fun x84 ex84 => ?_)
              refine G_goto C 93 dX11_says_85 rfl ?_
              refine G_iast (n := 200) C 94 (by decide) (fun σ => eMk (by decide) _ _ σ) (stk.length) Etop (by omega) (by decide) (Nat.le_refl _) dX11_says_93 rfl (fun s93 es93 => ?_)
              have f_1 : Fr (fun q => q = 16) s s93 := Fr.tr fl16 (Fr.up es93 rfl)
              refine G_iinc (w := 1) C 97 dX11_says_94 rfl rfl rfl rfl (fun x94 ex94 => ?_)
              have Nx94 : x94 = nI (stk.length + 1) := g_addN ex94 Etop rfl
              show GW SM E _ 97 [some (.ref (e_ad E 0)), some (.int pt), some (.int x94), some (.int q), some (.int x49)] [] s93
              refine G_goto C 191 dX11_says_97 rfl ?_
              refine G_iinc (w := 1) C 194 dX11_says_191 rfl rfl rfl rfl (fun x191 ex191 => ?_)
              have Nx191 : x191 = nI ((x_beg TX l j + k) + 1) := g_addN ex191 Eq rfl
              show GW SM E _ 194 [some (.ref (e_ad E 0)), some (.int pt), some (.int x94), some (.int x191), some (.int x49)] [] s93
              refine G_goto C 16 dX11_says_194 rfl ?_
              refine G_drop (L' := [some (.ref (e_ad E 0)), some (.int pt), some (.int x94), some (.int x191), none]) ⟨rfl, rfl, rfl, rfl, trivial⟩ ?_
              have hwo : x84 = x_wo (s 17) c 0 0 := by rw [x_wo_nam (by omega), ex84, fl16 _ (by omega)]
              have hst : x_st (s 17) c stk = x84 :: stk.drop (x_tk c) := by rw [hwo]; exact x_st_all hs ok htk 0 0 (fun q => absurd q (by omega)) (fun q => absurd q (by omega))
              exact ih16 (k + 1) (x84 :: stk.drop (x_tk c)) x94 x191 s93 (g_cn (a := (stk.length + 1)) Nx94 (by first | rfl | omega | (simp only [List.length_cons, List.length_drop]; done) | (simp only [List.length_cons, List.length_drop]; omega))) (g_cn (a := ((x_beg TX l j + k) + 1)) Nx191 (by first | rfl | omega | (simp only [List.length_cons, List.length_drop]; done) | (simp only [List.length_cons, List.length_drop]; omega))) (by omega) (by simp only [List.length_cons, List.length_drop]; omega) (by rw [← hst, ← x_ev_drop hc]; exact hev) (by simp only [List.length_cons, List.length_drop]; exact hht2) (by rw [es93]; unfold g_up; rw [g_set_s]; have e9 : (stk.drop (x_tk c)).length = stk.length - x_tk c := List.length_drop; rw [ktk] at e9 ⊢; first | exact x_stk_push hs | (rw [show stk.length - 1 - 1 = stk.length - 2 by omega, ← e9]; exact x_stk_push (x_stk_drop hs)) | (rw [← e9]; exact x_stk_push (x_stk_drop hs))) f_1 (by omega)
  exact L16 ((TX l j).length + 1) 0 [] 0 x14 s (g_cn (a := 0) rfl (by first | rfl | omega)) (g_cn (a := (x_beg TX l j)) Sx14 (by first | rfl | omega)) (by omega) (by simp) (rfl) (hH) (trivial) f (by omega)
