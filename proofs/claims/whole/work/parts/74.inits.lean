theorem dX0_init_0 : decode cX0_init 0 = .ok (.aload_n 0, 1) := by decide +kernel
theorem dX0_init_1 : decode cX0_init 1 = .ok (.invokespecial 1, 3) := by decide +kernel
theorem dX0_init_4 : decode cX0_init 4 = .ok (.return_, 1) := by decide +kernel
set_option maxHeartbeats 4000000 in
set_option maxRecDepth 100000 in
theorem i_X0_init (ci : Nat) : iMt yX0_init cX0_init 1 1 1 0 0 [] (.inr (ci, [])) (fun _ _ _ => .inr (ci, [])) := by
  refine iMt_of (by decide +kernel) (fun b => [some (.ref b)]) (fun _ => rfl) (fun _ => rfl) (fun _ => Nat.le_of_ble_eq_true rfl) (fun E b C hJ hin hRf hRl hRc hRs hsz hck hcs => ?_)
  refine A_aload_n (i := 0) C 1 dX0_init_0 rfl rfl rfl ?_
  refine A_objInit C 4 w_108 (by omega) (by omega) rfl (by decide) dX0_init_1 rfl ?_
  exact A_vret C hck.symm hcs.symm dX0_init_4 (r_cons rfl (r_end))
theorem dX1_init_0 : decode cX1_init 0 = .ok (.aload_n 0, 1) := by decide +kernel
theorem dX1_init_1 : decode cX1_init 1 = .ok (.invokespecial 1, 3) := by decide +kernel
theorem dX1_init_4 : decode cX1_init 4 = .ok (.return_, 1) := by decide +kernel
set_option maxHeartbeats 4000000 in
set_option maxRecDepth 100000 in
theorem i_X1_init (ci : Nat) : iMt yX1_init cX1_init 1 2 1 0 0 [] (.inr (ci, [])) (fun _ _ _ => .inr (ci, [])) := by
  refine iMt_of (by decide +kernel) (fun b => [some (.ref b)]) (fun _ => rfl) (fun _ => rfl) (fun _ => Nat.le_of_ble_eq_true rfl) (fun E b C hJ hin hRf hRl hRc hRs hsz hck hcs => ?_)
  refine A_aload_n (i := 0) C 1 dX1_init_0 rfl rfl rfl ?_
  refine A_init (b := b) C hJ 4 (n0 := 0) (nA := 0) (As := []) (st := []) (i_X0_init ci) ⟨w_107, by decide +kernel, by decide +kernel, by decide +kernel, by decide⟩ (gNB_of w_122 rfl) w_5 w_106 rfl (by omega) (by omega) (by omega) (by omega) (by decide) (by decide) rfl rfl rfl (by decide) rfl dX1_init_1 rfl ?_
  exact A_vret C hck.symm hcs.symm dX1_init_4 (r_cons rfl (r_end))
theorem dX3_init_0 : decode cX3_init 0 = .ok (.aload_n 0, 1) := by decide +kernel
theorem dX3_init_1 : decode cX3_init 1 = .ok (.invokespecial 1, 3) := by decide +kernel
theorem dX3_init_4 : decode cX3_init 4 = .ok (.return_, 1) := by decide +kernel
set_option maxHeartbeats 4000000 in
set_option maxRecDepth 100000 in
theorem i_X3_init (ci : Nat) : iMt yX3_init cX3_init 1 2 1 0 0 [] (.inr (ci, [])) (fun _ _ _ => .inr (ci, [])) := by
  refine iMt_of (by decide +kernel) (fun b => [some (.ref b)]) (fun _ => rfl) (fun _ => rfl) (fun _ => Nat.le_of_ble_eq_true rfl) (fun E b C hJ hin hRf hRl hRc hRs hsz hck hcs => ?_)
  refine A_aload_n (i := 0) C 1 dX3_init_0 rfl rfl rfl ?_
  refine A_init (b := b) C hJ 4 (n0 := 0) (nA := 0) (As := []) (st := []) (i_X0_init ci) ⟨w_107, by decide +kernel, by decide +kernel, by decide +kernel, by decide⟩ (gNB_of w_115 rfl) w_5 w_106 rfl (by omega) (by omega) (by omega) (by omega) (by decide) (by decide) rfl rfl rfl (by decide) rfl dX3_init_1 rfl ?_
  exact A_vret C hck.symm hcs.symm dX3_init_4 (r_cons rfl (r_end))
theorem dX5_init_0 : decode cX5_init 0 = .ok (.aload_n 0, 1) := by decide +kernel
theorem dX5_init_1 : decode cX5_init 1 = .ok (.invokespecial 1, 3) := by decide +kernel
theorem dX5_init_4 : decode cX5_init 4 = .ok (.return_, 1) := by decide +kernel
set_option maxHeartbeats 4000000 in
set_option maxRecDepth 100000 in
theorem i_X5_init (ci : Nat) : iMt yX5_init cX5_init 1 2 1 0 0 [] (.inr (ci, [])) (fun _ _ _ => .inr (ci, [])) := by
  refine iMt_of (by decide +kernel) (fun b => [some (.ref b)]) (fun _ => rfl) (fun _ => rfl) (fun _ => Nat.le_of_ble_eq_true rfl) (fun E b C hJ hin hRf hRl hRc hRs hsz hck hcs => ?_)
  refine A_aload_n (i := 0) C 1 dX5_init_0 rfl rfl rfl ?_
  refine A_init (b := b) C hJ 4 (n0 := 0) (nA := 0) (As := []) (st := []) (i_X0_init ci) ⟨w_107, by decide +kernel, by decide +kernel, by decide +kernel, by decide⟩ (gNB_of w_143 rfl) w_5 w_106 rfl (by omega) (by omega) (by omega) (by omega) (by decide) (by decide) rfl rfl rfl (by decide) rfl dX5_init_1 rfl ?_
  exact A_vret C hck.symm hcs.symm dX5_init_4 (r_cons rfl (r_end))
theorem dX2_init_0 : decode cX2_init 0 = .ok (.aload_n 0, 1) := by decide +kernel
theorem dX2_init_1 : decode cX2_init 1 = .ok (.invokespecial 1, 3) := by decide +kernel
theorem dX2_init_4 : decode cX2_init 4 = .ok (.return_, 1) := by decide +kernel
set_option maxHeartbeats 4000000 in
set_option maxRecDepth 100000 in
theorem i_X2_init (ci : Nat) : iMt yX2_init cX2_init 1 3 1 0 0 [] (.inr (ci, [])) (fun _ _ _ => .inr (ci, [])) := by
  refine iMt_of (by decide +kernel) (fun b => [some (.ref b)]) (fun _ => rfl) (fun _ => rfl) (fun _ => Nat.le_of_ble_eq_true rfl) (fun E b C hJ hin hRf hRl hRc hRs hsz hck hcs => ?_)
  refine A_aload_n (i := 0) C 1 dX2_init_0 rfl rfl rfl ?_
  refine A_init (b := b) C hJ 4 (n0 := 0) (nA := 0) (As := []) (st := []) (i_X1_init ci) ⟨w_121, by decide +kernel, by decide +kernel, by decide +kernel, by decide⟩ (gNB_of w_136 rfl) w_7 w_120 rfl (by omega) (by omega) (by omega) (by omega) (by decide) (by decide) rfl rfl rfl (by decide) rfl dX2_init_1 rfl ?_
  exact A_vret C hck.symm hcs.symm dX2_init_4 (r_cons rfl (r_end))
theorem dX8_init_0 : decode cX8_init 0 = .ok (.aload_n 0, 1) := by decide +kernel
theorem dX8_init_1 : decode cX8_init 1 = .ok (.invokespecial 1, 3) := by decide +kernel
theorem dX8_init_4 : decode cX8_init 4 = .ok (.return_, 1) := by decide +kernel
set_option maxHeartbeats 4000000 in
set_option maxRecDepth 100000 in
theorem i_X8_init (ci : Nat) : iMt yX8_init cX8_init 1 3 1 0 0 [] (.inr (ci, [])) (fun _ _ _ => .inr (ci, [])) := by
  refine iMt_of (by decide +kernel) (fun b => [some (.ref b)]) (fun _ => rfl) (fun _ => rfl) (fun _ => Nat.le_of_ble_eq_true rfl) (fun E b C hJ hin hRf hRl hRc hRs hsz hck hcs => ?_)
  refine A_aload_n (i := 0) C 1 dX8_init_0 rfl rfl rfl ?_
  refine A_init (b := b) C hJ 4 (n0 := 0) (nA := 0) (As := []) (st := []) (i_X3_init ci) ⟨w_114, by decide +kernel, by decide +kernel, by decide +kernel, by decide⟩ (gNB_of w_129 rfl) w_6 w_113 rfl (by omega) (by omega) (by omega) (by omega) (by decide) (by decide) rfl rfl rfl (by decide) rfl dX8_init_1 rfl ?_
  exact A_vret C hck.symm hcs.symm dX8_init_4 (r_cons rfl (r_end))
def iTx (cA : Nat → ClassId) (b : Nat) : Nat → va_E := fun k => ([.inr (7, [.ref (b + 1), .ref (b + 2), .ref (b + 3), .int 0]), .inl (cA 0, 160, .inl (fun _ => 0)), .inl (cA 0, 3, .inl (fun _ => 0)), .inl (cA 0, 160, .inl (fun _ => 0))] : List va_E).getD k (.inr (0, []))
def iSh (cA : Nat → ClassId) (b : Nat) : Nat → va_E := fun k => ([.inr (4, [.ref (b + 1), .int (-1), .int 0]), .inl (cA 0, 40, .inl (fun _ => 0))] : List va_E).getD k (.inr (0, []))
def iTp (cA : Nat → ClassId) (b : Nat) : Nat → va_E := fun k => ([.inr (6, [.ref (b + 1), .int 0, .int 0, .int 0, .int 0, .int 0, .null]), .inl (cA 0, 160, .inl (fun _ => 0))] : List va_E).getD k (.inr (0, []))
def iW (tx na : Nat) (cA : Nat → ClassId) (b : Nat) : Nat → va_E := fun k => ([.inr (9, [.ref tx, .ref na, .int 0, .int 0, .int 1023, .int 0, .int 0, .ref (b + 1), .ref (b + 2), .ref (b + 3), .ref (b + 4), .ref (b + 5), .ref (b + 6), .ref (b + 7), .ref (b + 8)]), .inl (cA 0, 10, .inl (fun _ => 0)), .inl (cA 0, 6, .inl (fun _ => 0)), .inl (cA 0, 6, .inl (fun _ => 0)), .inl (cA 0, 6, .inl (fun _ => 0)), .inl (cA 0, 6, .inl (fun _ => 0)), .inl (cA 0, 6, .inl (fun _ => 0)), .inl (cA 0, 6, .inl (fun _ => 0)), .inl (cA 0, 6, .inl (fun _ => 0))] : List va_E).getD k (.inr (0, []))
theorem dX7_init_0 : decode cX7_init 0 = .ok (.aload_n 0, 1) := by decide +kernel
theorem dX7_init_1 : decode cX7_init 1 = .ok (.invokespecial 3, 3) := by decide +kernel
theorem dX7_init_4 : decode cX7_init 4 = .ok (.aload_n 0, 1) := by decide +kernel
theorem dX7_init_5 : decode cX7_init 5 = .ok (.sipush 160, 3) := by decide +kernel
theorem dX7_init_8 : decode cX7_init 8 = .ok (.newarray .int, 2) := by decide +kernel
theorem dX7_init_10 : decode cX7_init 10 = .ok (.putfield 9, 3) := by decide +kernel
theorem dX7_init_13 : decode cX7_init 13 = .ok (.aload_n 0, 1) := by decide +kernel
theorem dX7_init_14 : decode cX7_init 14 = .ok (.iconst 3, 1) := by decide +kernel
theorem dX7_init_15 : decode cX7_init 15 = .ok (.newarray .int, 2) := by decide +kernel
theorem dX7_init_17 : decode cX7_init 17 = .ok (.putfield 15, 3) := by decide +kernel
theorem dX7_init_20 : decode cX7_init 20 = .ok (.aload_n 0, 1) := by decide +kernel
theorem dX7_init_21 : decode cX7_init 21 = .ok (.sipush 160, 3) := by decide +kernel
theorem dX7_init_24 : decode cX7_init 24 = .ok (.newarray .int, 2) := by decide +kernel
theorem dX7_init_26 : decode cX7_init 26 = .ok (.putfield 18, 3) := by decide +kernel
theorem dX7_init_29 : decode cX7_init 29 = .ok (.return_, 1) := by decide +kernel
set_option maxHeartbeats 4000000 in
set_option maxRecDepth 100000 in
theorem i_X7_init : iMt yX7_init cX7_init 1 1 4 3 323 [] (.inr (7, [.null, .null, .null, .int 0])) iTx := by
  refine iMt_of (by decide +kernel) (fun b => [some (.ref b)]) (fun _ => rfl) (fun _ => rfl) (fun _ => Nat.le_of_ble_eq_true rfl) (fun E b C hJ hin hRf hRl hRc hRs hsz hck hcs => ?_)
  refine A_aload_n (i := 0) C 1 dX7_init_0 rfl rfl rfl ?_
  refine A_objInit C 4 w_68 (by omega) (by omega) rfl (by decide) dX7_init_1 rfl ?_
  refine A_aload_n (i := 0) C 5 dX7_init_4 rfl rfl rfl ?_
  refine A_sipush (v := 160) C 8 dX7_init_5 rfl rfl ?_
  refine A_newa (N' := 160) C 10 rfl (by decide) (by omega) (Or.inl (by decide)) (by omega) (by omega) dX7_init_8 rfl ?_
  show AW E 4 b 2 1 160 _ 10 [some (.ref b)] [.ref (b + 1), .ref b] _
  refine A_putF (fs := [.null, .null, .null, .int 0]) C hin 13 FL_7_9 tyX7_ok nmX7 rfl rfl (tyX7_ok 0 (by decide)) ⟨rfl, rfl⟩ (k := 0) (by decide) (by decide) rfl (Nat.le_of_ble_eq_true rfl) dX7_init_10 rfl ?_
  refine A_aload_n (i := 0) C 14 dX7_init_13 rfl rfl rfl ?_
  refine A_iconst (v := 3) C 15 dX7_init_14 rfl rfl ?_
  refine A_newa (N' := 3) C 17 rfl (by decide) (by omega) (Or.inl (by decide)) (by omega) (by omega) dX7_init_15 rfl ?_
  show AW E 4 b 3 2 163 _ 17 [some (.ref b)] [.ref (b + 2), .ref b] _
  refine A_putF (fs := [.ref (b + 1), .null, .null, .int 0]) C hin 20 FL_7_15 tyX7_ok nmX7 rfl rfl (tyX7_ok 1 (by decide)) ⟨rfl, rfl⟩ (k := 0) (by decide) (by decide) rfl (Nat.le_of_ble_eq_true rfl) dX7_init_17 rfl ?_
  refine A_aload_n (i := 0) C 21 dX7_init_20 rfl rfl rfl ?_
  refine A_sipush (v := 160) C 24 dX7_init_21 rfl rfl ?_
  refine A_newa (N' := 160) C 26 rfl (by decide) (by omega) (Or.inl (by decide)) (by omega) (by omega) dX7_init_24 rfl ?_
  show AW E 4 b 4 3 323 _ 26 [some (.ref b)] [.ref (b + 3), .ref b] _
  refine A_putF (fs := [.ref (b + 1), .ref (b + 2), .null, .int 0]) C hin 29 FL_7_18 tyX7_ok nmX7 rfl rfl (tyX7_ok 2 (by decide)) ⟨rfl, rfl⟩ (k := 0) (by decide) (by decide) rfl (Nat.le_of_ble_eq_true rfl) dX7_init_26 rfl ?_
  exact A_vret C hck.symm hcs.symm dX7_init_29 (r_cons rfl (r_cons rfl (r_cons rfl (r_cons rfl (r_end)))))
theorem dX4_init_0 : decode cX4_init 0 = .ok (.aload_n 0, 1) := by decide +kernel
theorem dX4_init_1 : decode cX4_init 1 = .ok (.invokespecial 3, 3) := by decide +kernel
theorem dX4_init_4 : decode cX4_init 4 = .ok (.aload_n 0, 1) := by decide +kernel
theorem dX4_init_5 : decode cX4_init 5 = .ok (.bipush 40, 2) := by decide +kernel
theorem dX4_init_7 : decode cX4_init 7 = .ok (.newarray .int, 2) := by decide +kernel
theorem dX4_init_9 : decode cX4_init 9 = .ok (.putfield 9, 3) := by decide +kernel
theorem dX4_init_12 : decode cX4_init 12 = .ok (.aload_n 0, 1) := by decide +kernel
theorem dX4_init_13 : decode cX4_init 13 = .ok (.iconst (-1), 1) := by decide +kernel
theorem dX4_init_14 : decode cX4_init 14 = .ok (.putfield 15, 3) := by decide +kernel
theorem dX4_init_17 : decode cX4_init 17 = .ok (.return_, 1) := by decide +kernel
set_option maxHeartbeats 4000000 in
set_option maxRecDepth 100000 in
theorem i_X4_init : iMt yX4_init cX4_init 1 1 2 1 40 [] (.inr (4, [.null, .int 0, .int 0])) iSh := by
  refine iMt_of (by decide +kernel) (fun b => [some (.ref b)]) (fun _ => rfl) (fun _ => rfl) (fun _ => Nat.le_of_ble_eq_true rfl) (fun E b C hJ hin hRf hRl hRc hRs hsz hck hcs => ?_)
  refine A_aload_n (i := 0) C 1 dX4_init_0 rfl rfl rfl ?_
  refine A_objInit C 4 w_88 (by omega) (by omega) rfl (by decide) dX4_init_1 rfl ?_
  refine A_aload_n (i := 0) C 5 dX4_init_4 rfl rfl rfl ?_
  refine A_bipush (v := 40) C 7 dX4_init_5 rfl rfl ?_
  refine A_newa (N' := 40) C 9 rfl (by decide) (by omega) (Or.inl (by decide)) (by omega) (by omega) dX4_init_7 rfl ?_
  show AW E 2 b 2 1 40 _ 9 [some (.ref b)] [.ref (b + 1), .ref b] _
  refine A_putF (fs := [.null, .int 0, .int 0]) C hin 12 FL_4_9 tyX4_ok nmX4 rfl rfl (tyX4_ok 0 (by decide)) ⟨rfl, rfl⟩ (k := 0) (by decide) (by decide) rfl (Nat.le_of_ble_eq_true rfl) dX4_init_9 rfl ?_
  refine A_aload_n (i := 0) C 13 dX4_init_12 rfl rfl rfl ?_
  refine A_iconst (v := (-1)) C 14 dX4_init_13 rfl rfl ?_
  refine A_puti (fs := [.ref (b + 1), .int 0, .int 0]) C 17 FL_4_15 FP_4_1 (k := 0) (by decide) (by decide) rfl (Nat.le_of_ble_eq_true rfl) dX4_init_14 rfl ?_
  exact A_vret C hck.symm hcs.symm dX4_init_17 (r_cons rfl (r_cons rfl (r_end)))
theorem dX6_init_0 : decode cX6_init 0 = .ok (.aload_n 0, 1) := by decide +kernel
theorem dX6_init_1 : decode cX6_init 1 = .ok (.invokespecial 3, 3) := by decide +kernel
theorem dX6_init_4 : decode cX6_init 4 = .ok (.aload_n 0, 1) := by decide +kernel
theorem dX6_init_5 : decode cX6_init 5 = .ok (.sipush 160, 3) := by decide +kernel
theorem dX6_init_8 : decode cX6_init 8 = .ok (.newarray .int, 2) := by decide +kernel
theorem dX6_init_10 : decode cX6_init 10 = .ok (.putfield 9, 3) := by decide +kernel
theorem dX6_init_13 : decode cX6_init 13 = .ok (.return_, 1) := by decide +kernel
set_option maxHeartbeats 4000000 in
set_option maxRecDepth 100000 in
theorem i_X6_init : iMt yX6_init cX6_init 1 1 2 1 160 [] (.inr (6, [.null, .int 0, .int 0, .int 0, .int 0, .int 0, .null])) iTp := by
  refine iMt_of (by decide +kernel) (fun b => [some (.ref b)]) (fun _ => rfl) (fun _ => rfl) (fun _ => Nat.le_of_ble_eq_true rfl) (fun E b C hJ hin hRf hRl hRc hRs hsz hck hcs => ?_)
  refine A_aload_n (i := 0) C 1 dX6_init_0 rfl rfl rfl ?_
  refine A_objInit C 4 w_39 (by omega) (by omega) rfl (by decide) dX6_init_1 rfl ?_
  refine A_aload_n (i := 0) C 5 dX6_init_4 rfl rfl rfl ?_
  refine A_sipush (v := 160) C 8 dX6_init_5 rfl rfl ?_
  refine A_newa (N' := 160) C 10 rfl (by decide) (by omega) (Or.inl (by decide)) (by omega) (by omega) dX6_init_8 rfl ?_
  show AW E 2 b 2 1 160 _ 10 [some (.ref b)] [.ref (b + 1), .ref b] _
  refine A_putF (fs := [.null, .int 0, .int 0, .int 0, .int 0, .int 0, .null]) C hin 13 FL_6_9 tyX6_ok nmX6 rfl rfl (tyX6_ok 0 (by decide)) ⟨rfl, rfl⟩ (k := 0) (by decide) (by decide) rfl (Nat.le_of_ble_eq_true rfl) dX6_init_10 rfl ?_
  exact A_vret C hck.symm hcs.symm dX6_init_13 (r_cons rfl (r_cons rfl (r_end)))
theorem dX9_init_0 : decode cX9_init 0 = .ok (.aload_n 0, 1) := by decide +kernel
theorem dX9_init_1 : decode cX9_init 1 = .ok (.invokespecial 3, 3) := by decide +kernel
theorem dX9_init_4 : decode cX9_init 4 = .ok (.aload_n 0, 1) := by decide +kernel
theorem dX9_init_5 : decode cX9_init 5 = .ok (.sipush 1023, 3) := by decide +kernel
theorem dX9_init_8 : decode cX9_init 8 = .ok (.putfield 9, 3) := by decide +kernel
theorem dX9_init_11 : decode cX9_init 11 = .ok (.aload_n 0, 1) := by decide +kernel
theorem dX9_init_12 : decode cX9_init 12 = .ok (.bipush 10, 2) := by decide +kernel
theorem dX9_init_14 : decode cX9_init 14 = .ok (.newarray .int, 2) := by decide +kernel
theorem dX9_init_16 : decode cX9_init 16 = .ok (.putfield 15, 3) := by decide +kernel
theorem dX9_init_19 : decode cX9_init 19 = .ok (.aload_n 0, 1) := by decide +kernel
theorem dX9_init_20 : decode cX9_init 20 = .ok (.bipush 6, 2) := by decide +kernel
theorem dX9_init_22 : decode cX9_init 22 = .ok (.newarray .int, 2) := by decide +kernel
theorem dX9_init_24 : decode cX9_init 24 = .ok (.putfield 19, 3) := by decide +kernel
theorem dX9_init_27 : decode cX9_init 27 = .ok (.aload_n 0, 1) := by decide +kernel
theorem dX9_init_28 : decode cX9_init 28 = .ok (.bipush 6, 2) := by decide +kernel
theorem dX9_init_30 : decode cX9_init 30 = .ok (.newarray .int, 2) := by decide +kernel
theorem dX9_init_32 : decode cX9_init 32 = .ok (.putfield 22, 3) := by decide +kernel
theorem dX9_init_35 : decode cX9_init 35 = .ok (.aload_n 0, 1) := by decide +kernel
theorem dX9_init_36 : decode cX9_init 36 = .ok (.bipush 6, 2) := by decide +kernel
theorem dX9_init_38 : decode cX9_init 38 = .ok (.newarray .int, 2) := by decide +kernel
theorem dX9_init_40 : decode cX9_init 40 = .ok (.putfield 25, 3) := by decide +kernel
theorem dX9_init_43 : decode cX9_init 43 = .ok (.aload_n 0, 1) := by decide +kernel
theorem dX9_init_44 : decode cX9_init 44 = .ok (.bipush 6, 2) := by decide +kernel
theorem dX9_init_46 : decode cX9_init 46 = .ok (.newarray .int, 2) := by decide +kernel
theorem dX9_init_48 : decode cX9_init 48 = .ok (.putfield 28, 3) := by decide +kernel
theorem dX9_init_51 : decode cX9_init 51 = .ok (.aload_n 0, 1) := by decide +kernel
theorem dX9_init_52 : decode cX9_init 52 = .ok (.bipush 6, 2) := by decide +kernel
theorem dX9_init_54 : decode cX9_init 54 = .ok (.newarray .int, 2) := by decide +kernel
theorem dX9_init_56 : decode cX9_init 56 = .ok (.putfield 31, 3) := by decide +kernel
theorem dX9_init_59 : decode cX9_init 59 = .ok (.aload_n 0, 1) := by decide +kernel
theorem dX9_init_60 : decode cX9_init 60 = .ok (.bipush 6, 2) := by decide +kernel
theorem dX9_init_62 : decode cX9_init 62 = .ok (.newarray .int, 2) := by decide +kernel
theorem dX9_init_64 : decode cX9_init 64 = .ok (.putfield 34, 3) := by decide +kernel
theorem dX9_init_67 : decode cX9_init 67 = .ok (.aload_n 0, 1) := by decide +kernel
theorem dX9_init_68 : decode cX9_init 68 = .ok (.bipush 6, 2) := by decide +kernel
theorem dX9_init_70 : decode cX9_init 70 = .ok (.newarray .int, 2) := by decide +kernel
theorem dX9_init_72 : decode cX9_init 72 = .ok (.putfield 37, 3) := by decide +kernel
theorem dX9_init_75 : decode cX9_init 75 = .ok (.aload_n 0, 1) := by decide +kernel
theorem dX9_init_76 : decode cX9_init 76 = .ok (.aload_n 1, 1) := by decide +kernel
theorem dX9_init_77 : decode cX9_init 77 = .ok (.putfield 40, 3) := by decide +kernel
theorem dX9_init_80 : decode cX9_init 80 = .ok (.aload_n 0, 1) := by decide +kernel
theorem dX9_init_81 : decode cX9_init 81 = .ok (.aload_n 2, 1) := by decide +kernel
theorem dX9_init_82 : decode cX9_init 82 = .ok (.putfield 44, 3) := by decide +kernel
theorem dX9_init_85 : decode cX9_init 85 = .ok (.return_, 1) := by decide +kernel
set_option maxHeartbeats 4000000 in
set_option maxRecDepth 100000 in
theorem i_X9_init (tx na : Nat) : iMt yX9_init cX9_init 3 1 9 8 52 [.ref tx, .ref na] (.inr (9, [.null, .null, .int 0, .int 0, .int 0, .int 0, .int 0, .null, .null, .null, .null, .null, .null, .null, .null])) (iW tx na) := by
  refine iMt_of (by decide +kernel) (fun b => [some (.ref b), some (.ref tx), some (.ref na)]) (fun _ => rfl) (fun _ => rfl) (fun _ => Nat.le_of_ble_eq_true rfl) (fun E b C hJ hin hRf hRl hRc hRs hsz hck hcs => ?_)
  refine A_aload_n (i := 0) C 1 dX9_init_0 rfl rfl rfl ?_
  refine A_objInit C 4 w_150 (by omega) (by omega) rfl (by decide) dX9_init_1 rfl ?_
  refine A_aload_n (i := 0) C 5 dX9_init_4 rfl rfl rfl ?_
  refine A_sipush (v := 1023) C 8 dX9_init_5 rfl rfl ?_
  refine A_puti (fs := [.null, .null, .int 0, .int 0, .int 0, .int 0, .int 0, .null, .null, .null, .null, .null, .null, .null, .null]) C 11 FL_9_9 FP_9_4 (k := 0) (by decide) (by decide) rfl (Nat.le_of_ble_eq_true rfl) dX9_init_8 rfl ?_
  refine A_aload_n (i := 0) C 12 dX9_init_11 rfl rfl rfl ?_
  refine A_bipush (v := 10) C 14 dX9_init_12 rfl rfl ?_
  refine A_newa (N' := 10) C 16 rfl (by decide) (by omega) (Or.inl (by decide)) (by omega) (by omega) dX9_init_14 rfl ?_
  show AW E 9 b 2 1 10 _ 16 [some (.ref b), some (.ref tx), some (.ref na)] [.ref (b + 1), .ref b] _
  refine A_putF (fs := [.null, .null, .int 0, .int 0, .int 1023, .int 0, .int 0, .null, .null, .null, .null, .null, .null, .null, .null]) C hin 19 FL_9_15 tyX9_ok nmX9 rfl rfl (tyX9_ok 7 (by decide)) ⟨rfl, rfl⟩ (k := 0) (by decide) (by decide) rfl (Nat.le_of_ble_eq_true rfl) dX9_init_16 rfl ?_
  refine A_aload_n (i := 0) C 20 dX9_init_19 rfl rfl rfl ?_
  refine A_bipush (v := 6) C 22 dX9_init_20 rfl rfl ?_
  refine A_newa (N' := 6) C 24 rfl (by decide) (by omega) (Or.inl (by decide)) (by omega) (by omega) dX9_init_22 rfl ?_
  show AW E 9 b 3 2 16 _ 24 [some (.ref b), some (.ref tx), some (.ref na)] [.ref (b + 2), .ref b] _
  refine A_putF (fs := [.null, .null, .int 0, .int 0, .int 1023, .int 0, .int 0, .ref (b + 1), .null, .null, .null, .null, .null, .null, .null]) C hin 27 FL_9_19 tyX9_ok nmX9 rfl rfl (tyX9_ok 8 (by decide)) ⟨rfl, rfl⟩ (k := 0) (by decide) (by decide) rfl (Nat.le_of_ble_eq_true rfl) dX9_init_24 rfl ?_
  refine A_aload_n (i := 0) C 28 dX9_init_27 rfl rfl rfl ?_
  refine A_bipush (v := 6) C 30 dX9_init_28 rfl rfl ?_
  refine A_newa (N' := 6) C 32 rfl (by decide) (by omega) (Or.inl (by decide)) (by omega) (by omega) dX9_init_30 rfl ?_
  show AW E 9 b 4 3 22 _ 32 [some (.ref b), some (.ref tx), some (.ref na)] [.ref (b + 3), .ref b] _
  refine A_putF (fs := [.null, .null, .int 0, .int 0, .int 1023, .int 0, .int 0, .ref (b + 1), .ref (b + 2), .null, .null, .null, .null, .null, .null]) C hin 35 FL_9_22 tyX9_ok nmX9 rfl rfl (tyX9_ok 9 (by decide)) ⟨rfl, rfl⟩ (k := 0) (by decide) (by decide) rfl (Nat.le_of_ble_eq_true rfl) dX9_init_32 rfl ?_
  refine A_aload_n (i := 0) C 36 dX9_init_35 rfl rfl rfl ?_
  refine A_bipush (v := 6) C 38 dX9_init_36 rfl rfl ?_
  refine A_newa (N' := 6) C 40 rfl (by decide) (by omega) (Or.inl (by decide)) (by omega) (by omega) dX9_init_38 rfl ?_
  show AW E 9 b 5 4 28 _ 40 [some (.ref b), some (.ref tx), some (.ref na)] [.ref (b + 4), .ref b] _
  refine A_putF (fs := [.null, .null, .int 0, .int 0, .int 1023, .int 0, .int 0, .ref (b + 1), .ref (b + 2), .ref (b + 3), .null, .null, .null, .null, .null]) C hin 43 FL_9_25 tyX9_ok nmX9 rfl rfl (tyX9_ok 10 (by decide)) ⟨rfl, rfl⟩ (k := 0) (by decide) (by decide) rfl (Nat.le_of_ble_eq_true rfl) dX9_init_40 rfl ?_
  refine A_aload_n (i := 0) C 44 dX9_init_43 rfl rfl rfl ?_
  refine A_bipush (v := 6) C 46 dX9_init_44 rfl rfl ?_
  refine A_newa (N' := 6) C 48 rfl (by decide) (by omega) (Or.inl (by decide)) (by omega) (by omega) dX9_init_46 rfl ?_
  show AW E 9 b 6 5 34 _ 48 [some (.ref b), some (.ref tx), some (.ref na)] [.ref (b + 5), .ref b] _
  refine A_putF (fs := [.null, .null, .int 0, .int 0, .int 1023, .int 0, .int 0, .ref (b + 1), .ref (b + 2), .ref (b + 3), .ref (b + 4), .null, .null, .null, .null]) C hin 51 FL_9_28 tyX9_ok nmX9 rfl rfl (tyX9_ok 11 (by decide)) ⟨rfl, rfl⟩ (k := 0) (by decide) (by decide) rfl (Nat.le_of_ble_eq_true rfl) dX9_init_48 rfl ?_
  refine A_aload_n (i := 0) C 52 dX9_init_51 rfl rfl rfl ?_
  refine A_bipush (v := 6) C 54 dX9_init_52 rfl rfl ?_
  refine A_newa (N' := 6) C 56 rfl (by decide) (by omega) (Or.inl (by decide)) (by omega) (by omega) dX9_init_54 rfl ?_
  show AW E 9 b 7 6 40 _ 56 [some (.ref b), some (.ref tx), some (.ref na)] [.ref (b + 6), .ref b] _
  refine A_putF (fs := [.null, .null, .int 0, .int 0, .int 1023, .int 0, .int 0, .ref (b + 1), .ref (b + 2), .ref (b + 3), .ref (b + 4), .ref (b + 5), .null, .null, .null]) C hin 59 FL_9_31 tyX9_ok nmX9 rfl rfl (tyX9_ok 12 (by decide)) ⟨rfl, rfl⟩ (k := 0) (by decide) (by decide) rfl (Nat.le_of_ble_eq_true rfl) dX9_init_56 rfl ?_
  refine A_aload_n (i := 0) C 60 dX9_init_59 rfl rfl rfl ?_
  refine A_bipush (v := 6) C 62 dX9_init_60 rfl rfl ?_
  refine A_newa (N' := 6) C 64 rfl (by decide) (by omega) (Or.inl (by decide)) (by omega) (by omega) dX9_init_62 rfl ?_
  show AW E 9 b 8 7 46 _ 64 [some (.ref b), some (.ref tx), some (.ref na)] [.ref (b + 7), .ref b] _
  refine A_putF (fs := [.null, .null, .int 0, .int 0, .int 1023, .int 0, .int 0, .ref (b + 1), .ref (b + 2), .ref (b + 3), .ref (b + 4), .ref (b + 5), .ref (b + 6), .null, .null]) C hin 67 FL_9_34 tyX9_ok nmX9 rfl rfl (tyX9_ok 13 (by decide)) ⟨rfl, rfl⟩ (k := 0) (by decide) (by decide) rfl (Nat.le_of_ble_eq_true rfl) dX9_init_64 rfl ?_
  refine A_aload_n (i := 0) C 68 dX9_init_67 rfl rfl rfl ?_
  refine A_bipush (v := 6) C 70 dX9_init_68 rfl rfl ?_
  refine A_newa (N' := 6) C 72 rfl (by decide) (by omega) (Or.inl (by decide)) (by omega) (by omega) dX9_init_70 rfl ?_
  show AW E 9 b 9 8 52 _ 72 [some (.ref b), some (.ref tx), some (.ref na)] [.ref (b + 8), .ref b] _
  refine A_putF (fs := [.null, .null, .int 0, .int 0, .int 1023, .int 0, .int 0, .ref (b + 1), .ref (b + 2), .ref (b + 3), .ref (b + 4), .ref (b + 5), .ref (b + 6), .ref (b + 7), .null]) C hin 75 FL_9_37 tyX9_ok nmX9 rfl rfl (tyX9_ok 14 (by decide)) ⟨rfl, rfl⟩ (k := 0) (by decide) (by decide) rfl (Nat.le_of_ble_eq_true rfl) dX9_init_72 rfl ?_
  refine A_aload_n (i := 0) C 76 dX9_init_75 rfl rfl rfl ?_
  refine A_aload_n (i := 1) C 77 dX9_init_76 rfl rfl rfl ?_
  refine A_putF (fs := [.null, .null, .int 0, .int 0, .int 1023, .int 0, .int 0, .ref (b + 1), .ref (b + 2), .ref (b + 3), .ref (b + 4), .ref (b + 5), .ref (b + 6), .ref (b + 7), .ref (b + 8)]) C hin 80 FL_9_40 tyX9_ok nmX9 rfl rfl (tyX9_ok 0 (by decide)) ⟨rfl, rfl⟩ (k := 0) (by decide) (by decide) rfl (Nat.le_of_ble_eq_true rfl) dX9_init_77 rfl ?_
  refine A_aload_n (i := 0) C 81 dX9_init_80 rfl rfl rfl ?_
  refine A_aload_n (i := 2) C 82 dX9_init_81 rfl rfl rfl ?_
  refine A_putF (fs := [.ref tx, .null, .int 0, .int 0, .int 1023, .int 0, .int 0, .ref (b + 1), .ref (b + 2), .ref (b + 3), .ref (b + 4), .ref (b + 5), .ref (b + 6), .ref (b + 7), .ref (b + 8)]) C hin 85 FL_9_44 tyX9_ok nmX9 rfl rfl (tyX9_ok 1 (by decide)) ⟨rfl, rfl⟩ (k := 0) (by decide) (by decide) rfl (Nat.le_of_ble_eq_true rfl) dX9_init_82 rfl ?_
  exact A_vret C hck.symm hcs.symm dX9_init_85 (r_cons rfl (r_cons rfl (r_cons rfl (r_cons rfl (r_cons rfl (r_cons rfl (r_cons rfl (r_cons rfl (r_cons rfl (r_end))))))))))
