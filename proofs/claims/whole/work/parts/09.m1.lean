theorem dX10_within_0 : decode cX10_within 0 = .ok (.iload_n 0, 1) := by decide +kernel
theorem dX10_within_1 : decode cX10_within 1 = .ok (.iload_n 1, 1) := by decide +kernel
theorem dX10_within_2 : decode cX10_within 2 = .ok (.if_icmp .lt 12, 3) := by decide +kernel
theorem dX10_within_5 : decode cX10_within 5 = .ok (.iload_n 0, 1) := by decide +kernel
theorem dX10_within_6 : decode cX10_within 6 = .ok (.iload_n 2, 1) := by decide +kernel
theorem dX10_within_7 : decode cX10_within 7 = .ok (.if_icmp .gt 7, 3) := by decide +kernel
theorem dX10_within_10 : decode cX10_within 10 = .ok (.iconst 1, 1) := by decide +kernel
theorem dX10_within_11 : decode cX10_within 11 = .ok (.goto 4, 3) := by decide +kernel
theorem dX10_within_14 : decode cX10_within 14 = .ok (.iconst 0, 1) := by decide +kernel
theorem dX10_within_15 : decode cX10_within 15 = .ok (.ireturn, 1) := by decide +kernel
set_option maxHeartbeats 4000000 in
set_option maxRecDepth 100000 in
theorem c_X10_within (d : Nat) (v a b : Int32) (s : gS) : gMt SC yX10_within cX10_within 3 (some .boolean) (d + 1) (fun ad => [.int v, .int a, .int b]) s (gQi SC (fun r s' => s' = s ∧ r = x_in v a b)) := by
  refine gMt_of SC_ok (by decide +kernel) (fun ad => [some (.int v), some (.int a), some (.int b)]) (fun _ => rfl) (fun _ => rfl) (fun _ => Nat.le_of_ble_eq_true rfl) (fun E C0 => ?_)
  have C : gCx SC E RX10 cX10_within 3 (some .boolean) (d + 1) := C0
  refine G_iload_n (i := 0) C 1 dX10_within_0 rfl rfl rfl ?_
  refine G_iload_n (i := 1) C 2 dX10_within_1 rfl rfl rfl ?_
  refine G_icmp_lt C 14 5 dX10_within_2 rfl rfl (fun c2 => ?_) (fun c2 => ?_)
  ·
    refine G_iconst (v := 0) C 15 dX10_within_14 rfl rfl ?_
    exact G_zret C rfl dX10_within_15 (⟨rfl, by simp [x_in, *]⟩)
  ·
    refine G_iload_n (i := 0) C 6 dX10_within_5 rfl rfl rfl ?_
    refine G_iload_n (i := 2) C 7 dX10_within_6 rfl rfl rfl ?_
    refine G_icmp_gt C 14 10 dX10_within_7 rfl rfl (fun c7 => ?_) (fun c7 => ?_)
    ·
      refine G_iconst (v := 0) C 15 dX10_within_14 rfl rfl ?_
      exact G_zret C rfl dX10_within_15 (⟨rfl, by simp [x_in, *]⟩)
    ·
      refine G_iconst (v := 1) C 11 dX10_within_10 rfl rfl ?_
      refine G_goto C 15 dX10_within_11 rfl ?_
      exact G_zret C rfl dX10_within_15 (⟨rfl, by simp [x_in, *]⟩)
theorem dX10_isByte_0 : decode cX10_isByte 0 = .ok (.iload_n 0, 1) := by decide +kernel
theorem dX10_isByte_1 : decode cX10_isByte 1 = .ok (.iconst 0, 1) := by decide +kernel
theorem dX10_isByte_2 : decode cX10_isByte 2 = .ok (.sipush 255, 3) := by decide +kernel
theorem dX10_isByte_5 : decode cX10_isByte 5 = .ok (.invokestatic 112, 3) := by decide +kernel
theorem dX10_isByte_8 : decode cX10_isByte 8 = .ok (.ireturn, 1) := by decide +kernel
set_option maxHeartbeats 4000000 in
set_option maxRecDepth 100000 in
theorem c_X10_isByte (d : Nat) (v : Int32) (s : gS) : gMt SC yX10_isByte cX10_isByte 1 (some .boolean) (d + 2) (fun ad => [.int v]) s (gQi SC (fun r s' => s' = s ∧ r = x_in v 0 255)) := by
  refine gMt_of SC_ok (by decide +kernel) (fun ad => [some (.int v)]) (fun _ => rfl) (fun _ => rfl) (fun _ => Nat.le_of_ble_eq_true rfl) (fun E C0 => ?_)
  have C : gCx SC E RX10 cX10_isByte 1 (some .boolean) (d + 2) := C0
  refine G_iload_n (i := 0) C 1 dX10_isByte_0 rfl rfl rfl ?_
  refine G_iconst (v := 0) C 2 dX10_isByte_1 rfl rfl ?_
  refine G_sipush (v := 255) C 5 dX10_isByte_2 rfl rfl ?_
  refine G_calli 8 (G_runS C Kc_X10_within KS_X10_112 (by omega) (c_X10_within 0 v 0 255 s) rfl rfl (by decide) rfl dX10_isByte_5) rfl (fun x5 s5 h5 => ?_)
  obtain ⟨es5, h5⟩ := h5
  have es5 := es5.symm
  subst es5
  exact G_zret C (g_nb (by rw [h5]; exact x_in01 _ _ _)) dX10_isByte_8 (⟨rfl, h5⟩)
theorem dX10_isIn_0 : decode cX10_isIn 0 = .ok (.iload_n 0, 1) := by decide +kernel
theorem dX10_isIn_1 : decode cX10_isIn 1 = .ok (.iload_n 1, 1) := by decide +kernel
theorem dX10_isIn_2 : decode cX10_isIn 2 = .ok (.ishr, 1) := by decide +kernel
theorem dX10_isIn_3 : decode cX10_isIn 3 = .ok (.iconst 1, 1) := by decide +kernel
theorem dX10_isIn_4 : decode cX10_isIn 4 = .ok (.iand, 1) := by decide +kernel
theorem dX10_isIn_5 : decode cX10_isIn 5 = .ok (.ifCond .eq 7, 3) := by decide +kernel
theorem dX10_isIn_8 : decode cX10_isIn 8 = .ok (.iconst 1, 1) := by decide +kernel
theorem dX10_isIn_9 : decode cX10_isIn 9 = .ok (.goto 4, 3) := by decide +kernel
theorem dX10_isIn_12 : decode cX10_isIn 12 = .ok (.iconst 0, 1) := by decide +kernel
theorem dX10_isIn_13 : decode cX10_isIn 13 = .ok (.ireturn, 1) := by decide +kernel
set_option maxHeartbeats 4000000 in
set_option maxRecDepth 100000 in
theorem c_X10_isIn (d : Nat) (v p : Int32) (s : gS) : gMt SC yX10_isIn cX10_isIn 2 (some .boolean) (d + 1) (fun ad => [.int v, .int p]) s (gQi SC (fun r s' => s' = s ∧ r = x_isIn v p)) := by
  refine gMt_of SC_ok (by decide +kernel) (fun ad => [some (.int v), some (.int p)]) (fun _ => rfl) (fun _ => rfl) (fun _ => Nat.le_of_ble_eq_true rfl) (fun E C0 => ?_)
  have C : gCx SC E RX10 cX10_isIn 2 (some .boolean) (d + 1) := C0
  refine G_iload_n (i := 0) C 1 dX10_isIn_0 rfl rfl rfl ?_
  refine G_iload_n (i := 1) C 2 dX10_isIn_1 rfl rfl rfl ?_
  refine G_ishr C 3 dX10_isIn_2 rfl (fun x2 ex2 => ?_)
  refine G_iconst (v := 1) C 4 dX10_isIn_3 rfl rfl ?_
  refine G_iand C 5 dX10_isIn_4 rfl (fun x4 ex4 => ?_)
  refine G_if_eq C 12 8 dX10_isIn_5 rfl rfl (fun c5 => ?_) (fun c5 => ?_)
  ·
    refine G_iconst (v := 0) C 13 dX10_isIn_12 rfl rfl ?_
    exact G_zret C rfl dX10_isIn_13 (⟨rfl, by subst_vars; simp_all [x_isIn, x_bit]⟩)
  ·
    refine G_iconst (v := 1) C 9 dX10_isIn_8 rfl rfl ?_
    refine G_goto C 13 dX10_isIn_9 rfl ?_
    exact G_zret C rfl dX10_isIn_13 (⟨rfl, by subst_vars; simp_all [x_isIn, x_bit]⟩)
theorem dX10_firstOf_0 : decode cX10_firstOf 0 = .ok (.iconst 0, 1) := by decide +kernel
theorem dX10_firstOf_1 : decode cX10_firstOf 1 = .ok (.istore_n 1, 1) := by decide +kernel
theorem dX10_firstOf_2 : decode cX10_firstOf 2 = .ok (.iload_n 1, 1) := by decide +kernel
theorem dX10_firstOf_3 : decode cX10_firstOf 3 = .ok (.bipush 10, 2) := by decide +kernel
theorem dX10_firstOf_5 : decode cX10_firstOf 5 = .ok (.if_icmp .ge 19, 3) := by decide +kernel
theorem dX10_firstOf_8 : decode cX10_firstOf 8 = .ok (.iload_n 0, 1) := by decide +kernel
theorem dX10_firstOf_9 : decode cX10_firstOf 9 = .ok (.iload_n 1, 1) := by decide +kernel
theorem dX10_firstOf_10 : decode cX10_firstOf 10 = .ok (.invokestatic 199, 3) := by decide +kernel
theorem dX10_firstOf_13 : decode cX10_firstOf 13 = .ok (.ifCond .eq 5, 3) := by decide +kernel
theorem dX10_firstOf_16 : decode cX10_firstOf 16 = .ok (.iload_n 1, 1) := by decide +kernel
theorem dX10_firstOf_17 : decode cX10_firstOf 17 = .ok (.ireturn, 1) := by decide +kernel
theorem dX10_firstOf_18 : decode cX10_firstOf 18 = .ok (.iinc 1 1, 3) := by decide +kernel
theorem dX10_firstOf_21 : decode cX10_firstOf 21 = .ok (.goto (-19), 3) := by decide +kernel
theorem dX10_firstOf_24 : decode cX10_firstOf 24 = .ok (.iconst (-1), 1) := by decide +kernel
theorem dX10_firstOf_25 : decode cX10_firstOf 25 = .ok (.ireturn, 1) := by decide +kernel
set_option maxHeartbeats 4000000 in
set_option maxRecDepth 100000 in
theorem c_X10_firstOf (d : Nat) (v : Int32) (s : gS) : gMt SC yX10_firstOf cX10_firstOf 2 (some .int) (d + 2) (fun ad => [.int v]) s (gQi SC (fun r s' => s' = s ∧ r = x_first v 10 0)) := by
  refine gMt_of SC_ok (by decide +kernel) (fun ad => [some (.int v), none]) (fun _ => rfl) (fun _ => rfl) (fun _ => Nat.le_of_ble_eq_true rfl) (fun E C0 => ?_)
  have C : gCx SC E RX10 cX10_firstOf 2 (some .int) (d + 2) := C0
  refine G_iconst (v := 0) C 1 dX10_firstOf_0 rfl rfl ?_
  refine G_istore_n (i := 1) (L' := [some (.int v), some (.int 0)]) C 2 dX10_firstOf_1 rfl rfl (Nat.le_of_ble_eq_true rfl) rfl rfl ?_
  have L2 : ∀ (f2 : Nat) (k : Nat) (x : Int32) (Ex : x = nI k) (hk : k ≤ 10) (hr : x_first v 10 0 = x_first v (10 - k) k), 10 < k + f2 → GW SC E (gFin SC E (gQi SC (fun r s' => s' = s ∧ r = x_first v 10 0))) 2 [some (.int v), some (.int x)] [] s := by
    intro f2
    induction f2 with
    | zero =>
      intro k x Ex hk hr hf2
      exact absurd hf2 (by omega)
    | succ f2 ih2 =>
      intro k x Ex hk hr hf2
      refine G_iload_n (i := 1) C 3 dX10_firstOf_2 rfl rfl rfl ?_
      refine G_bipush (v := 10) C 5 dX10_firstOf_3 rfl rfl ?_
      refine G_icmp_ge C 24 8 dX10_firstOf_5 rfl rfl (fun c5 => ?_) (fun c5 => ?_)
      ·
        have n5 : ¬ k < 10 := fun h => c5 ((g_ltN (a := k) (b := 10) (hx := Ex) (hy := rfl) (by omega) (by omega)).mpr h)
        refine G_iconst (v := (-1)) C 25 dX10_firstOf_24 rfl rfl ?_
        exact G_iret C dX10_firstOf_25 (⟨rfl, by rw [hr, show 10 - k = 0 by omega]; rfl⟩)
      ·
        have n5 : k < 10 := (g_ltN (a := k) (b := 10) (hx := Ex) (hy := rfl) (by omega) (by omega)).mp c5
        refine G_iload_n (i := 0) C 9 dX10_firstOf_8 rfl rfl rfl ?_
        refine G_iload_n (i := 1) C 10 dX10_firstOf_9 rfl rfl rfl ?_
        refine G_calli 13 (G_runS C Kc_X10_isIn KS_X10_199 (by omega) (c_X10_isIn 0 v x s) rfl rfl (by decide) rfl dX10_firstOf_10) rfl (fun x10 s10 h10 => ?_)
        obtain ⟨es10, h10⟩ := h10
        have es10 := es10.symm
        subst es10
        refine G_if_eq C 18 16 dX10_firstOf_13 rfl rfl (fun c13 => ?_) (fun c13 => ?_)
        ·
          refine G_iinc (w := 1) C 21 dX10_firstOf_18 rfl rfl rfl rfl (fun x18 ex18 => ?_)
          show GW SC E _ 21 [some (.int v), some (.int x18)] [] s
          refine G_goto C 2 dX10_firstOf_21 rfl ?_
          exact ih2 (k + 1) x18  (g_addN ex18 Ex rfl) (by omega) (by rw [hr, show 10 - k = (10 - (k + 1)) + 1 by omega, x_first, ← Ex, if_pos]; simpa [x_isIn, h10] using c13) (by omega)
        ·
          refine G_iload_n (i := 1) C 17 dX10_firstOf_16 rfl rfl rfl ?_
          exact G_iret C dX10_firstOf_17 (⟨rfl, by rw [hr, show 10 - k = (10 - (k + 1)) + 1 by omega, x_first, ← Ex, if_neg (by simpa [x_isIn, h10] using c13)]⟩)
  exact L2 (10 + 1) 0 0  rfl (by omega) (rfl) (by omega)
