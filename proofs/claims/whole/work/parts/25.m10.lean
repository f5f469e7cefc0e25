theorem dX9_row_0 : decode cX9_row 0 = .ok (.iload_n 1, 1) := by decide +kernel
theorem dX9_row_1 : decode cX9_row 1 = .ok (.tableswitch 60 0 4 #[35, 40, 45, 50, 55], 35) := by decide +kernel
theorem dX9_row_36 : decode cX9_row 36 = .ok (.aload_n 0, 1) := by decide +kernel
theorem dX9_row_37 : decode cX9_row 37 = .ok (.getfield 19, 3) := by decide +kernel
theorem dX9_row_40 : decode cX9_row 40 = .ok (.areturn, 1) := by decide +kernel
theorem dX9_row_41 : decode cX9_row 41 = .ok (.aload_n 0, 1) := by decide +kernel
theorem dX9_row_42 : decode cX9_row 42 = .ok (.getfield 22, 3) := by decide +kernel
theorem dX9_row_45 : decode cX9_row 45 = .ok (.areturn, 1) := by decide +kernel
theorem dX9_row_46 : decode cX9_row 46 = .ok (.aload_n 0, 1) := by decide +kernel
theorem dX9_row_47 : decode cX9_row 47 = .ok (.getfield 25, 3) := by decide +kernel
theorem dX9_row_50 : decode cX9_row 50 = .ok (.areturn, 1) := by decide +kernel
theorem dX9_row_51 : decode cX9_row 51 = .ok (.aload_n 0, 1) := by decide +kernel
theorem dX9_row_52 : decode cX9_row 52 = .ok (.getfield 28, 3) := by decide +kernel
theorem dX9_row_55 : decode cX9_row 55 = .ok (.areturn, 1) := by decide +kernel
theorem dX9_row_56 : decode cX9_row 56 = .ok (.aload_n 0, 1) := by decide +kernel
theorem dX9_row_57 : decode cX9_row 57 = .ok (.getfield 31, 3) := by decide +kernel
theorem dX9_row_60 : decode cX9_row 60 = .ok (.areturn, 1) := by decide +kernel
theorem dX9_row_61 : decode cX9_row 61 = .ok (.aload_n 0, 1) := by decide +kernel
theorem dX9_row_62 : decode cX9_row 62 = .ok (.getfield 34, 3) := by decide +kernel
theorem dX9_row_65 : decode cX9_row 65 = .ok (.areturn, 1) := by decide +kernel
set_option maxHeartbeats 4000000 in
set_option maxRecDepth 100000 in
theorem c_X9_row_0 (d w : Nat) (hw : isW w) (s : gS) : gMt SC yX9_row cX9_row 2 (some (.array .int)) (d + 1) (fun ad => [.ref (ad w), .int 0]) s (gQr SC (fun k s' => s' = s ∧ k = w + 2)) := by
  refine gMt_of SC_ok (by decide +kernel) (fun ad => [some (.ref (ad w)), some (.int 0)]) (fun _ => rfl) (fun _ => rfl) (fun _ => Nat.le_of_ble_eq_true rfl) (fun E C0 => ?_)
  have C : gCx SC E RX9 cX9_row 2 (some (.array .int)) (d + 1) := C0
  refine G_iload_n (i := 1) C 1 dX9_row_0 rfl rfl rfl ?_
  refine G_tsIn C 36 (0) rfl dX9_row_1 (by decide) rfl rfl ?_
  refine G_aload_n (i := 0) C 37 dX9_row_36 rfl rfl rfl ?_
  refine X9_19g C hw 40 dX9_row_37 rfl ?_
  exact G_aret C (by first | exact Or.inl ⟨_, rfl⟩ | exact Or.inr ⟨_, rfl⟩) dX9_row_40 (⟨rfl, rfl⟩)
set_option maxHeartbeats 4000000 in
set_option maxRecDepth 100000 in
theorem c_X9_row_1 (d w : Nat) (hw : isW w) (s : gS) : gMt SC yX9_row cX9_row 2 (some (.array .int)) (d + 1) (fun ad => [.ref (ad w), .int 1]) s (gQr SC (fun k s' => s' = s ∧ k = w + 3)) := by
  refine gMt_of SC_ok (by decide +kernel) (fun ad => [some (.ref (ad w)), some (.int 1)]) (fun _ => rfl) (fun _ => rfl) (fun _ => Nat.le_of_ble_eq_true rfl) (fun E C0 => ?_)
  have C : gCx SC E RX9 cX9_row 2 (some (.array .int)) (d + 1) := C0
  refine G_iload_n (i := 1) C 1 dX9_row_0 rfl rfl rfl ?_
  refine G_tsIn C 41 (1) rfl dX9_row_1 (by decide) rfl rfl ?_
  refine G_aload_n (i := 0) C 42 dX9_row_41 rfl rfl rfl ?_
  refine X9_22g C hw 45 dX9_row_42 rfl ?_
  exact G_aret C (by first | exact Or.inl ⟨_, rfl⟩ | exact Or.inr ⟨_, rfl⟩) dX9_row_45 (⟨rfl, rfl⟩)
set_option maxHeartbeats 4000000 in
set_option maxRecDepth 100000 in
theorem c_X9_row_2 (d w : Nat) (hw : isW w) (s : gS) : gMt SC yX9_row cX9_row 2 (some (.array .int)) (d + 1) (fun ad => [.ref (ad w), .int 2]) s (gQr SC (fun k s' => s' = s ∧ k = w + 4)) := by
  refine gMt_of SC_ok (by decide +kernel) (fun ad => [some (.ref (ad w)), some (.int 2)]) (fun _ => rfl) (fun _ => rfl) (fun _ => Nat.le_of_ble_eq_true rfl) (fun E C0 => ?_)
  have C : gCx SC E RX9 cX9_row 2 (some (.array .int)) (d + 1) := C0
  refine G_iload_n (i := 1) C 1 dX9_row_0 rfl rfl rfl ?_
  refine G_tsIn C 46 (2) rfl dX9_row_1 (by decide) rfl rfl ?_
  refine G_aload_n (i := 0) C 47 dX9_row_46 rfl rfl rfl ?_
  refine X9_25g C hw 50 dX9_row_47 rfl ?_
  exact G_aret C (by first | exact Or.inl ⟨_, rfl⟩ | exact Or.inr ⟨_, rfl⟩) dX9_row_50 (⟨rfl, rfl⟩)
set_option maxHeartbeats 4000000 in
set_option maxRecDepth 100000 in
theorem c_X9_row_3 (d w : Nat) (hw : isW w) (s : gS) : gMt SC yX9_row cX9_row 2 (some (.array .int)) (d + 1) (fun ad => [.ref (ad w), .int 3]) s (gQr SC (fun k s' => s' = s ∧ k = w + 5)) := by
  refine gMt_of SC_ok (by decide +kernel) (fun ad => [some (.ref (ad w)), some (.int 3)]) (fun _ => rfl) (fun _ => rfl) (fun _ => Nat.le_of_ble_eq_true rfl) (fun E C0 => ?_)
  have C : gCx SC E RX9 cX9_row 2 (some (.array .int)) (d + 1) := C0
  refine G_iload_n (i := 1) C 1 dX9_row_0 rfl rfl rfl ?_
  refine G_tsIn C 51 (3) rfl dX9_row_1 (by decide) rfl rfl ?_
  refine G_aload_n (i := 0) C 52 dX9_row_51 rfl rfl rfl ?_
  refine X9_28g C hw 55 dX9_row_52 rfl ?_
  exact G_aret C (by first | exact Or.inl ⟨_, rfl⟩ | exact Or.inr ⟨_, rfl⟩) dX9_row_55 (⟨rfl, rfl⟩)
set_option maxHeartbeats 4000000 in
set_option maxRecDepth 100000 in
theorem c_X9_row_4 (d w : Nat) (hw : isW w) (s : gS) : gMt SC yX9_row cX9_row 2 (some (.array .int)) (d + 1) (fun ad => [.ref (ad w), .int 4]) s (gQr SC (fun k s' => s' = s ∧ k = w + 6)) := by
  refine gMt_of SC_ok (by decide +kernel) (fun ad => [some (.ref (ad w)), some (.int 4)]) (fun _ => rfl) (fun _ => rfl) (fun _ => Nat.le_of_ble_eq_true rfl) (fun E C0 => ?_)
  have C : gCx SC E RX9 cX9_row 2 (some (.array .int)) (d + 1) := C0
  refine G_iload_n (i := 1) C 1 dX9_row_0 rfl rfl rfl ?_
  refine G_tsIn C 56 (4) rfl dX9_row_1 (by decide) rfl rfl ?_
  refine G_aload_n (i := 0) C 57 dX9_row_56 rfl rfl rfl ?_
  refine X9_31g C hw 60 dX9_row_57 rfl ?_
  exact G_aret C (by first | exact Or.inl ⟨_, rfl⟩ | exact Or.inr ⟨_, rfl⟩) dX9_row_60 (⟨rfl, rfl⟩)
set_option maxHeartbeats 4000000 in
set_option maxRecDepth 100000 in
theorem c_X9_row_5 (d w : Nat) (hw : isW w) (s : gS) : gMt SC yX9_row cX9_row 2 (some (.array .int)) (d + 1) (fun ad => [.ref (ad w), .int 5]) s (gQr SC (fun k s' => s' = s ∧ k = w + 7)) := by
  refine gMt_of SC_ok (by decide +kernel) (fun ad => [some (.ref (ad w)), some (.int 5)]) (fun _ => rfl) (fun _ => rfl) (fun _ => Nat.le_of_ble_eq_true rfl) (fun E C0 => ?_)
  have C : gCx SC E RX9 cX9_row 2 (some (.array .int)) (d + 1) := C0
  refine G_iload_n (i := 1) C 1 dX9_row_0 rfl rfl rfl ?_
  refine G_tsOut C 61 dX9_row_1 (by decide) rfl ?_
  refine G_aload_n (i := 0) C 62 dX9_row_61 rfl rfl rfl ?_
  refine X9_34g C hw 65 dX9_row_62 rfl ?_
  exact G_aret C (by first | exact Or.inl ⟨_, rfl⟩ | exact Or.inr ⟨_, rfl⟩) dX9_row_65 (⟨rfl, rfl⟩)
theorem dX9_settle_0 : decode cX9_settle 0 = .ok (.aload_n 0, 1) := by decide +kernel
theorem dX9_settle_1 : decode cX9_settle 1 = .ok (.getfield 57, 3) := by decide +kernel
theorem dX9_settle_4 : decode cX9_settle 4 = .ok (.bipush 6, 2) := by decide +kernel
theorem dX9_settle_6 : decode cX9_settle 6 = .ok (.if_icmp .lt 6, 3) := by decide +kernel
theorem dX9_settle_9 : decode cX9_settle 9 = .ok (.bipush (-4), 2) := by decide +kernel
theorem dX9_settle_11 : decode cX9_settle 11 = .ok (.ireturn, 1) := by decide +kernel
theorem dX9_settle_12 : decode cX9_settle 12 = .ok (.aload_n 0, 1) := by decide +kernel
theorem dX9_settle_13 : decode cX9_settle 13 = .ok (.getfield 57, 3) := by decide +kernel
theorem dX9_settle_16 : decode cX9_settle 16 = .ok (.istore 4, 2) := by decide +kernel
theorem dX9_settle_18 : decode cX9_settle 18 = .ok (.aload_n 0, 1) := by decide +kernel
theorem dX9_settle_19 : decode cX9_settle 19 = .ok (.getfield 31, 3) := by decide +kernel
theorem dX9_settle_22 : decode cX9_settle 22 = .ok (.iload 4, 2) := by decide +kernel
theorem dX9_settle_24 : decode cX9_settle 24 = .ok (.iload_n 1, 1) := by decide +kernel
theorem dX9_settle_25 : decode cX9_settle 25 = .ok (.bipush 10, 2) := by decide +kernel
theorem dX9_settle_27 : decode cX9_settle 27 = .ok (.idiv, 1) := by decide +kernel
theorem dX9_settle_28 : decode cX9_settle 28 = .ok (.iastore, 1) := by decide +kernel
theorem dX9_settle_29 : decode cX9_settle 29 = .ok (.aload_n 0, 1) := by decide +kernel
theorem dX9_settle_30 : decode cX9_settle 30 = .ok (.getfield 34, 3) := by decide +kernel
theorem dX9_settle_33 : decode cX9_settle 33 = .ok (.iload 4, 2) := by decide +kernel
theorem dX9_settle_35 : decode cX9_settle 35 = .ok (.iload_n 1, 1) := by decide +kernel
theorem dX9_settle_36 : decode cX9_settle 36 = .ok (.bipush 10, 2) := by decide +kernel
theorem dX9_settle_38 : decode cX9_settle 38 = .ok (.irem, 1) := by decide +kernel
theorem dX9_settle_39 : decode cX9_settle 39 = .ok (.iastore, 1) := by decide +kernel
theorem dX9_settle_40 : decode cX9_settle 40 = .ok (.aload_n 0, 1) := by decide +kernel
theorem dX9_settle_41 : decode cX9_settle 41 = .ok (.getfield 19, 3) := by decide +kernel
theorem dX9_settle_44 : decode cX9_settle 44 = .ok (.iload 4, 2) := by decide +kernel
theorem dX9_settle_46 : decode cX9_settle 46 = .ok (.iload_n 2, 1) := by decide +kernel
theorem dX9_settle_47 : decode cX9_settle 47 = .ok (.iastore, 1) := by decide +kernel
theorem dX9_settle_48 : decode cX9_settle 48 = .ok (.aload_n 0, 1) := by decide +kernel
theorem dX9_settle_49 : decode cX9_settle 49 = .ok (.getfield 22, 3) := by decide +kernel
theorem dX9_settle_52 : decode cX9_settle 52 = .ok (.iload 4, 2) := by decide +kernel
theorem dX9_settle_54 : decode cX9_settle 54 = .ok (.iload_n 3, 1) := by decide +kernel
theorem dX9_settle_55 : decode cX9_settle 55 = .ok (.iastore, 1) := by decide +kernel
theorem dX9_settle_56 : decode cX9_settle 56 = .ok (.aload_n 0, 1) := by decide +kernel
theorem dX9_settle_57 : decode cX9_settle 57 = .ok (.getfield 25, 3) := by decide +kernel
theorem dX9_settle_60 : decode cX9_settle 60 = .ok (.iload 4, 2) := by decide +kernel
theorem dX9_settle_62 : decode cX9_settle 62 = .ok (.iconst 0, 1) := by decide +kernel
theorem dX9_settle_63 : decode cX9_settle 63 = .ok (.iastore, 1) := by decide +kernel
theorem dX9_settle_64 : decode cX9_settle 64 = .ok (.aload_n 0, 1) := by decide +kernel
theorem dX9_settle_65 : decode cX9_settle 65 = .ok (.getfield 28, 3) := by decide +kernel
theorem dX9_settle_68 : decode cX9_settle 68 = .ok (.iload 4, 2) := by decide +kernel
theorem dX9_settle_70 : decode cX9_settle 70 = .ok (.iconst 1, 1) := by decide +kernel
theorem dX9_settle_71 : decode cX9_settle 71 = .ok (.iastore, 1) := by decide +kernel
theorem dX9_settle_72 : decode cX9_settle 72 = .ok (.aload_n 0, 1) := by decide +kernel
theorem dX9_settle_73 : decode cX9_settle 73 = .ok (.dup, 1) := by decide +kernel
theorem dX9_settle_74 : decode cX9_settle 74 = .ok (.getfield 57, 3) := by decide +kernel
theorem dX9_settle_77 : decode cX9_settle 77 = .ok (.iconst 1, 1) := by decide +kernel
theorem dX9_settle_78 : decode cX9_settle 78 = .ok (.iadd, 1) := by decide +kernel
theorem dX9_settle_79 : decode cX9_settle 79 = .ok (.putfield 57, 3) := by decide +kernel
theorem dX9_settle_82 : decode cX9_settle 82 = .ok (.iload 4, 2) := by decide +kernel
theorem dX9_settle_84 : decode cX9_settle 84 = .ok (.ireturn, 1) := by decide +kernel
set_option maxHeartbeats 4000000 in
set_option maxRecDepth 100000 in
theorem c_X9_settle (d : Nat) (TX : gTX) (nT n l w : Nat) (P s : gS) (hI : cI TX nT n l w P s) (km wh wa : Int32) (hkm : ∃ a, a < 60 ∧ km = nI a) (hwa : ∃ m, m < 1024 ∧ wa = nI m) : gMt SC yX9_settle cX9_settle 5 (some .int) (d + 1) (fun ad => [.ref (ad w), .int km, .int wh, .int wa]) s (gQi SC (fun r s' => Fr (mW w) s s' ∧ cI TX nT (if n = 6 then 6 else n + 1) l w (if x_n P = 6 then P else s_set P km wh wa) s' ∧ r = if x_n P = 6 then -4 else P 0 4)) := by
  have hw := hI.1
  have hn6 : n ≤ 6 := hI.2.2.1.2.1
  have hl6 : l < 6 := cI_l6 hI
  refine gMt_of SC_ok (by decide +kernel) (fun ad => [some (.ref (ad w)), some (.int km), some (.int wh), some (.int wa), none]) (fun _ => rfl) (fun _ => rfl) (fun _ => Nat.le_of_ble_eq_true rfl) (fun E C0 => ?_)
  have C : gCx SC E RX9 cX9_settle 5 (some .int) (d + 1) := C0
  have f : Fr (mW w) s s := Fr.rf
  refine G_aload_n (i := 0) C 1 dX9_settle_0 rfl rfl rfl ?_
  refine X9_57g C hw 4 dX9_settle_1 rfl (fun x1 ex1 => ?_)
  have Sx1 : x1 = nI n := ex1.trans (cI_n hI)
  refine G_bipush (v := 6) C 6 dX9_settle_4 rfl rfl ?_
  refine G_icmp_lt C 12 9 dX9_settle_6 rfl rfl (fun c6 => ?_) (fun c6 => ?_)
  ·
    have n6 : n < 6 := (g_ltN (a := n) (b := 6) (hx := Sx1) (hy := rfl) (by omega) (by omega)).mp c6
    refine G_aload_n (i := 0) C 13 dX9_settle_12 rfl rfl rfl ?_
    refine X9_57g C hw 16 dX9_settle_13 rfl (fun x13 ex13 => ?_)
    have Sx13 : x13 = nI n := ex13.trans (cI_n hI)
    refine G_istore (L' := [some (.ref (e_ad E w)), some (.int km), some (.int wh), some (.int wa), some (.int x13)]) C 18 dX9_settle_16 rfl (Nat.le_of_ble_eq_true rfl) rfl rfl ?_
    refine G_aload_n (i := 0) C 19 dX9_settle_18 rfl rfl rfl ?_
    refine X9_31g C hw 22 dX9_settle_19 rfl ?_
    refine G_iload C 24 dX9_settle_22 rfl rfl ?_
    refine G_iload_n (i := 1) C 25 dX9_settle_24 rfl rfl rfl ?_
    refine G_bipush (v := 10) C 27 dX9_settle_25 rfl rfl ?_
    refine G_idiv C 28 dX9_settle_27 rfl (by decide) (fun x27 ex27 => ?_)
    refine G_iast (n := 6) C 29 (lW hw (by decide)) (fun σ => eW6 _ _ σ hw) (n) Sx13 (by omega) (by decide) (Nat.le_of_eq (nWi hw (by decide) (by decide)).symm) dX9_settle_28 rfl (fun s28 es28 => ?_)
    have f_1 : Fr (mW w) s s28 := Fr.tr f (Fr.upW es28 (by decide))
    refine G_aload_n (i := 0) C 30 dX9_settle_29 rfl rfl rfl ?_
    refine X9_34g C hw 33 dX9_settle_30 rfl ?_
    refine G_iload C 35 dX9_settle_33 rfl rfl ?_
    refine G_iload_n (i := 1) C 36 dX9_settle_35 rfl rfl rfl ?_
    refine G_bipush (v := 10) C 38 dX9_settle_36 rfl rfl ?_
    refine G_irem C 39 dX9_settle_38 rfl (by decide) (fun x38 ex38 => ?_)
    refine G_iast (n := 6) C 40 (lW hw (by decide)) (fun σ => eW7 _ _ σ hw) (n) Sx13 (by omega) (by decide) (Nat.le_of_eq (nWi hw (by decide) (by decide)).symm) dX9_settle_39 rfl (fun s39 es39 => ?_)
    have f_2 : Fr (mW w) s s39 := Fr.tr f_1 (Fr.upW es39 (by decide))
    refine G_aload_n (i := 0) C 41 dX9_settle_40 rfl rfl rfl ?_
    refine X9_19g C hw 44 dX9_settle_41 rfl ?_
    refine G_iload C 46 dX9_settle_44 rfl rfl ?_
    refine G_iload_n (i := 2) C 47 dX9_settle_46 rfl rfl rfl ?_
    refine G_iast (n := 6) C 48 (lW hw (by decide)) (fun σ => eW2 _ _ σ hw) (n) Sx13 (by omega) (by decide) (Nat.le_of_eq (nWi hw (by decide) (by decide)).symm) dX9_settle_47 rfl (fun s47 es47 => ?_)
    have f_3 : Fr (mW w) s s47 := Fr.tr f_2 (Fr.upW es47 (by decide))
    refine G_aload_n (i := 0) C 49 dX9_settle_48 rfl rfl rfl ?_
    refine X9_22g C hw 52 dX9_settle_49 rfl ?_
    refine G_iload C 54 dX9_settle_52 rfl rfl ?_
    refine G_iload_n (i := 3) C 55 dX9_settle_54 rfl rfl rfl ?_
    refine G_iast (n := 6) C 56 (lW hw (by decide)) (fun σ => eW3 _ _ σ hw) (n) Sx13 (by omega) (by decide) (Nat.le_of_eq (nWi hw (by decide) (by decide)).symm) dX9_settle_55 rfl (fun s55 es55 => ?_)
    have f_4 : Fr (mW w) s s55 := Fr.tr f_3 (Fr.upW es55 (by decide))
    refine G_aload_n (i := 0) C 57 dX9_settle_56 rfl rfl rfl ?_
    refine X9_25g C hw 60 dX9_settle_57 rfl ?_
    refine G_iload C 62 dX9_settle_60 rfl rfl ?_
    refine G_iconst (v := 0) C 63 dX9_settle_62 rfl rfl ?_
    refine G_iast (n := 6) C 64 (lW hw (by decide)) (fun σ => eW4 _ _ σ hw) (n) Sx13 (by omega) (by decide) (Nat.le_of_eq (nWi hw (by decide) (by decide)).symm) dX9_settle_63 rfl (fun s63 es63 => ?_)
    have f_5 : Fr (mW w) s s63 := Fr.tr f_4 (Fr.upW es63 (by decide))
    refine G_aload_n (i := 0) C 65 dX9_settle_64 rfl rfl rfl ?_
    refine X9_28g C hw 68 dX9_settle_65 rfl ?_
    refine G_iload C 70 dX9_settle_68 rfl rfl ?_
    refine G_iconst (v := 1) C 71 dX9_settle_70 rfl rfl ?_
    refine G_iast (n := 6) C 72 (lW hw (by decide)) (fun σ => eW5 _ _ σ hw) (n) Sx13 (by omega) (by decide) (Nat.le_of_eq (nWi hw (by decide) (by decide)).symm) dX9_settle_71 rfl (fun s71 es71 => ?_)
    have f_6 : Fr (mW w) s s71 := Fr.tr f_5 (Fr.upW es71 (by decide))
    refine G_aload_n (i := 0) C 73 dX9_settle_72 rfl rfl rfl ?_
    refine G_dup C 74 dX9_settle_73 rfl rfl ?_
    refine X9_57g C hw 77 dX9_settle_74 rfl (fun x74 ex74 => ?_)
    have Sx74 : x74 = nI n := ex74.trans (by rw [es71, g_up_n (by omega), es63, g_up_n (by omega), es55, g_up_n (by omega), es47, g_up_n (by omega), es39, g_up_n (by omega), es28, g_up_n (by omega)]; exact cI_n hI)
    refine G_iconst (v := 1) C 78 dX9_settle_77 rfl rfl ?_
    refine G_iadd C 79 dX9_settle_78 rfl (fun x78 ex78 => ?_)
    have Nx78 : x78 = nI (n + 1) := g_addN ex78 Sx74 rfl
    refine X9_57p C hw 82 dX9_settle_79 rfl (fun s79 es79 => ?_)
    have f_7 : Fr (mW w) s s79 := Fr.tr f_6 (Fr.upW (i := 0) es79 (by decide))
    refine G_iload C 84 dX9_settle_82 rfl rfl ?_
    have hxn : x_n P = n := x_nOf hI.2.2.1.1 hn6
    have hFi : Fr (mW w) s s79 := f_7
    have hlast : x78 = nI n + 1 := by rw [ex78, Sx74]
    have hch : s79 = g_up (g_up (g_up (g_up (g_up (g_up (g_up s (w + 6) n x27) (w + 7) n x38) (w + 2) n wh) (w + 3) n wa) (w + 4) n 0) (w + 5) n 1) w 6 (nI n + 1) := by rw [es79, es71, es63, es55, es47, es39, es28, hlast]
    obtain ⟨a, ha, ea⟩ := hkm
    have e27 : x27 = nI (a / 10) := by rw [ex27, ea, show (10 : Int32) = nI 10 from rfl, pk_div (by omega) (by omega) (by omega)]
    have hI2 : cI TX nT (n + 1) l w (s_set P km wh wa) s79 := by
      have hp := pI_set hI.2.2.1 (by omega) (a := x27) (b := x38) (c := wh) (e := wa) (f := 0) (g := 1) ⟨a / 10, by omega, e27⟩ hwa ⟨0, by decide, rfl⟩
      have hc := cv_set (a := x27) (b := x38) (c := wh) (e := wa) (f := 0) (g := 1) hw (cI_n hI) (by omega)
      rw [hI.2.1] at hc
      have e38 : x38 = km - km / 10 * 10 := ex38
      have eS : s_set P km wh wa = g_up (g_up (g_up (g_up (g_up (g_up (g_up P 6 n x27) 7 n x38) 2 n wh) 3 n wa) 4 n 0) 5 n 1) 0 4 (nI n + 1) := by
        unfold s_set
        rw [hxn, hI.2.2.1.1, ex27, e38]
      refine ⟨hw, ?_, ?_, fun t ht => cT_fr hFi ?_ ?_ (hI.2.2.2 t ht)⟩
      · rw [hch, hc, eS]
      · rw [eS]; exact hp
      · have := Nat.lt_of_lt_of_le ht hI.2.2.1.2.2.2.2.1
        rcases hw with rfl | rfl | rfl <;> (unfold mW mS; omega)
      · have := Nat.lt_of_lt_of_le ht hI.2.2.1.2.2.2.2.1
        rcases hw with rfl | rfl | rfl <;> (unfold mW mS; omega)
    exact G_iret C dX9_settle_84 (⟨hFi, by rw [if_neg (by omega), hxn, if_neg (by omega)]; exact hI2, by rw [hxn, if_neg (by omega)]; exact Sx13.trans hI.2.2.1.1.symm⟩)
  ·
    have n6 : ¬ n < 6 := fun h => c6 ((g_ltN (a := n) (b := 6) (hx := Sx1) (hy := rfl) (by omega) (by omega)).mpr h)
    refine G_bipush (v := (-4)) C 11 dX9_settle_9 rfl rfl ?_
    have hxn : x_n P = n := x_nOf hI.2.2.1.1 hn6
    have e6 : n = 6 := by omega
    exact G_iret C dX9_settle_11 (⟨Fr.rf, by rw [if_pos e6, hxn, if_pos e6]; rw [e6] at hI; exact hI, by rw [hxn, if_pos e6]⟩)
theorem dX10_mostOfBorough_0 : decode cX10_mostOfBorough 0 = .ok (.iload_n 0, 1) := by decide +kernel
theorem dX10_mostOfBorough_1 : decode cX10_mostOfBorough 1 = .ok (.tableswitch 38 0 2 #[27, 31, 34], 27) := by decide +kernel
theorem dX10_mostOfBorough_28 : decode cX10_mostOfBorough 28 = .ok (.sipush 9999, 3) := by decide +kernel
theorem dX10_mostOfBorough_31 : decode cX10_mostOfBorough 31 = .ok (.ireturn, 1) := by decide +kernel
theorem dX10_mostOfBorough_32 : decode cX10_mostOfBorough 32 = .ok (.bipush 8, 2) := by decide +kernel
theorem dX10_mostOfBorough_34 : decode cX10_mostOfBorough 34 = .ok (.ireturn, 1) := by decide +kernel
theorem dX10_mostOfBorough_35 : decode cX10_mostOfBorough 35 = .ok (.sipush 1023, 3) := by decide +kernel
theorem dX10_mostOfBorough_38 : decode cX10_mostOfBorough 38 = .ok (.ireturn, 1) := by decide +kernel
theorem dX10_mostOfBorough_39 : decode cX10_mostOfBorough 39 = .ok (.bipush 99, 2) := by decide +kernel
theorem dX10_mostOfBorough_41 : decode cX10_mostOfBorough 41 = .ok (.ireturn, 1) := by decide +kernel
set_option maxHeartbeats 4000000 in
set_option maxRecDepth 100000 in
theorem c_X10_mostOfBorough (d : Nat) (q : Int32) (s : gS) : gMt SC yX10_mostOfBorough cX10_mostOfBorough 1 (some .int) (d + 1) (fun ad => [.int q]) s (gQi SC (fun r s' => s' = s ∧ r = s_most q)) := by
  refine gMt_of SC_ok (by decide +kernel) (fun ad => [some (.int q)]) (fun _ => rfl) (fun _ => rfl) (fun _ => Nat.le_of_ble_eq_true rfl) (fun E C0 => ?_)
  have C : gCx SC E RX10 cX10_mostOfBorough 1 (some .int) (d + 1) := C0
  refine G_iload_n (i := 0) C 1 dX10_mostOfBorough_0 rfl rfl rfl ?_
  by_cases c1 : q = 0
  ·
    refine G_tsIn C 28 (0) c1 dX10_mostOfBorough_1 (by decide) rfl rfl ?_
    refine G_sipush (v := 9999) C 31 dX10_mostOfBorough_28 rfl rfl ?_
    exact G_iret C dX10_mostOfBorough_31 (⟨rfl, by unfold s_most; rw [if_pos c1]⟩)
  by_cases c1_1 : q = 1
  ·
    refine G_tsIn C 32 (1) c1_1 dX10_mostOfBorough_1 (by decide) rfl rfl ?_
    refine G_bipush (v := 8) C 34 dX10_mostOfBorough_32 rfl rfl ?_
    exact G_iret C dX10_mostOfBorough_34 (⟨rfl, by unfold s_most; rw [if_neg c1, if_pos c1_1]⟩)
  by_cases c1_2 : q = 2
  ·
    refine G_tsIn C 35 (2) c1_2 dX10_mostOfBorough_1 (by decide) rfl rfl ?_
    refine G_sipush (v := 1023) C 38 dX10_mostOfBorough_35 rfl rfl ?_
    exact G_iret C dX10_mostOfBorough_38 (⟨rfl, by unfold s_most; rw [if_neg c1, if_neg c1_1, if_pos c1_2]⟩)
  refine G_tsOut C 39 dX10_mostOfBorough_1 (by
    have e0 := g_ti (k := 0) 0 rfl c1
    have e1 := g_ti (k := 1) 1 rfl c1_1
    have e2 := g_ti (k := 2) 2 rfl c1_2
    omega) rfl ?_
  refine G_bipush (v := 99) C 41 dX10_mostOfBorough_39 rfl rfl ?_
  exact G_iret C dX10_mostOfBorough_41 (⟨rfl, by unfold s_most; rw [if_neg c1, if_neg c1_1, if_neg c1_2]⟩)
theorem dX10_ofBorough_0 : decode cX10_ofBorough 0 = .ok (.iload_n 1, 1) := by decide +kernel
theorem dX10_ofBorough_1 : decode cX10_ofBorough 1 = .ok (.tableswitch 51 0 2 #[27, 35, 43], 27) := by decide +kernel
theorem dX10_ofBorough_28 : decode cX10_ofBorough 28 = .ok (.aload_n 0, 1) := by decide +kernel
theorem dX10_ofBorough_29 : decode cX10_ofBorough 29 = .ok (.getfield 57, 3) := by decide +kernel
theorem dX10_ofBorough_32 : decode cX10_ofBorough 32 = .ok (.getfield 97, 3) := by decide +kernel
theorem dX10_ofBorough_35 : decode cX10_ofBorough 35 = .ok (.ireturn, 1) := by decide +kernel
theorem dX10_ofBorough_36 : decode cX10_ofBorough 36 = .ok (.aload_n 0, 1) := by decide +kernel
theorem dX10_ofBorough_37 : decode cX10_ofBorough 37 = .ok (.getfield 57, 3) := by decide +kernel
theorem dX10_ofBorough_40 : decode cX10_ofBorough 40 = .ok (.getfield 122, 3) := by decide +kernel
theorem dX10_ofBorough_43 : decode cX10_ofBorough 43 = .ok (.ireturn, 1) := by decide +kernel
theorem dX10_ofBorough_44 : decode cX10_ofBorough 44 = .ok (.aload_n 0, 1) := by decide +kernel
theorem dX10_ofBorough_45 : decode cX10_ofBorough 45 = .ok (.getfield 57, 3) := by decide +kernel
theorem dX10_ofBorough_48 : decode cX10_ofBorough 48 = .ok (.getfield 100, 3) := by decide +kernel
theorem dX10_ofBorough_51 : decode cX10_ofBorough 51 = .ok (.ireturn, 1) := by decide +kernel
theorem dX10_ofBorough_52 : decode cX10_ofBorough 52 = .ok (.iload_n 1, 1) := by decide +kernel
theorem dX10_ofBorough_53 : decode cX10_ofBorough 53 = .ok (.iconst 3, 1) := by decide +kernel
theorem dX10_ofBorough_54 : decode cX10_ofBorough 54 = .ok (.bipush 12, 2) := by decide +kernel
theorem dX10_ofBorough_56 : decode cX10_ofBorough 56 = .ok (.invokestatic 112, 3) := by decide +kernel
theorem dX10_ofBorough_59 : decode cX10_ofBorough 59 = .ok (.ifCond .eq 17, 3) := by decide +kernel
theorem dX10_ofBorough_62 : decode cX10_ofBorough 62 = .ok (.aload_n 0, 1) := by decide +kernel
theorem dX10_ofBorough_63 : decode cX10_ofBorough 63 = .ok (.getfield 57, 3) := by decide +kernel
theorem dX10_ofBorough_66 : decode cX10_ofBorough 66 = .ok (.getfield 125, 3) := by decide +kernel
theorem dX10_ofBorough_69 : decode cX10_ofBorough 69 = .ok (.iload_n 1, 1) := by decide +kernel
theorem dX10_ofBorough_70 : decode cX10_ofBorough 70 = .ok (.iconst 3, 1) := by decide +kernel
theorem dX10_ofBorough_71 : decode cX10_ofBorough 71 = .ok (.isub, 1) := by decide +kernel
theorem dX10_ofBorough_72 : decode cX10_ofBorough 72 = .ok (.iaload, 1) := by decide +kernel
theorem dX10_ofBorough_73 : decode cX10_ofBorough 73 = .ok (.goto 5, 3) := by decide +kernel
theorem dX10_ofBorough_76 : decode cX10_ofBorough 76 = .ok (.bipush (-2), 2) := by decide +kernel
theorem dX10_ofBorough_78 : decode cX10_ofBorough 78 = .ok (.ireturn, 1) := by decide +kernel
set_option maxHeartbeats 4000000 in
set_option maxRecDepth 100000 in
theorem c_X10_ofBorough_0 (d : Nat) (TX : gTX) (P B s : gS) (hR0 : RC TX P B s) : gMt SC yX10_ofBorough cX10_ofBorough 2 (some .int) (d + 2) (fun ad => [.ref (ad 0), .int 0]) s (gQi SC (fun r s' => s' = s ∧ r = s_old P 0)) := by
  obtain ⟨nT, n, l, hR⟩ := hR0
  have hI := hR.1
  have hn6 : n ≤ 6 := hI.2.2.1.2.1
  have hl6 : l < 6 := cI_l6 hI
  have hxn : x_n P = n := x_nOf hI.2.2.1.1 hn6
  have hbI := hR.2.2
  refine gMt_of SC_ok (by decide +kernel) (fun ad => [some (.ref (ad 0)), some (.int 0)]) (fun _ => rfl) (fun _ => rfl) (fun _ => Nat.le_of_ble_eq_true rfl) (fun E C0 => ?_)
  have C : gCx SC E RX10 cX10_ofBorough 2 (some .int) (d + 2) := C0
  have fm : cI TX nT n l 45 P s := hI
  have fq : Fr mQ s s := Fr.rf
  refine G_iload_n (i := 1) C 1 dX10_ofBorough_0 rfl rfl rfl ?_
  refine G_tsIn C 28 (0) rfl dX10_ofBorough_1 (by decide) rfl rfl ?_
  refine G_aload_n (i := 0) C 29 dX10_ofBorough_28 rfl rfl rfl ?_
  refine X10_57g C 32 dX10_ofBorough_29 rfl ?_
  refine X10_97g C (Or.inl rfl) 35 dX10_ofBorough_32 rfl (fun x32 ex32 => ?_)
  have Sx32 : x32 = P 0 0 := ex32.trans (cI_v fm 0 0)
  exact G_iret C dX10_ofBorough_35 (⟨rfl, Sx32⟩)
set_option maxHeartbeats 4000000 in
set_option maxRecDepth 100000 in
theorem c_X10_ofBorough_1 (d : Nat) (TX : gTX) (P B s : gS) (hR0 : RC TX P B s) : gMt SC yX10_ofBorough cX10_ofBorough 2 (some .int) (d + 2) (fun ad => [.ref (ad 0), .int 1]) s (gQi SC (fun r s' => s' = s ∧ r = s_old P 1)) := by
  obtain ⟨nT, n, l, hR⟩ := hR0
  have hI := hR.1
  have hn6 : n ≤ 6 := hI.2.2.1.2.1
  have hl6 : l < 6 := cI_l6 hI
  have hxn : x_n P = n := x_nOf hI.2.2.1.1 hn6
  have hbI := hR.2.2
  refine gMt_of SC_ok (by decide +kernel) (fun ad => [some (.ref (ad 0)), some (.int 1)]) (fun _ => rfl) (fun _ => rfl) (fun _ => Nat.le_of_ble_eq_true rfl) (fun E C0 => ?_)
  have C : gCx SC E RX10 cX10_ofBorough 2 (some .int) (d + 2) := C0
  have fm : cI TX nT n l 45 P s := hI
  have fq : Fr mQ s s := Fr.rf
  refine G_iload_n (i := 1) C 1 dX10_ofBorough_0 rfl rfl rfl ?_
  refine G_tsIn C 36 (1) rfl dX10_ofBorough_1 (by decide) rfl rfl ?_
  refine G_aload_n (i := 0) C 37 dX10_ofBorough_36 rfl rfl rfl ?_
  refine X10_57g C 40 dX10_ofBorough_37 rfl ?_
  refine X10_122g C (Or.inl rfl) 43 dX10_ofBorough_40 rfl (fun x40 ex40 => ?_)
  have Sx40 : x40 = P 0 1 := ex40.trans (cI_v fm 0 1)
  obtain ⟨mx40, hmx40, emx40⟩ := fm.2.2.1.2.2.2.2.2.2.2.2
  exact G_iret C dX10_ofBorough_43 (⟨rfl, Sx40⟩)
set_option maxHeartbeats 4000000 in
set_option maxRecDepth 100000 in
theorem c_X10_ofBorough_2 (d : Nat) (TX : gTX) (P B s : gS) (hR0 : RC TX P B s) : gMt SC yX10_ofBorough cX10_ofBorough 2 (some .int) (d + 2) (fun ad => [.ref (ad 0), .int 2]) s (gQi SC (fun r s' => s' = s ∧ r = s_old P 2)) := by
  obtain ⟨nT, n, l, hR⟩ := hR0
  have hI := hR.1
  have hn6 : n ≤ 6 := hI.2.2.1.2.1
  have hl6 : l < 6 := cI_l6 hI
  have hxn : x_n P = n := x_nOf hI.2.2.1.1 hn6
  have hbI := hR.2.2
  refine gMt_of SC_ok (by decide +kernel) (fun ad => [some (.ref (ad 0)), some (.int 2)]) (fun _ => rfl) (fun _ => rfl) (fun _ => Nat.le_of_ble_eq_true rfl) (fun E C0 => ?_)
  have C : gCx SC E RX10 cX10_ofBorough 2 (some .int) (d + 2) := C0
  have fm : cI TX nT n l 45 P s := hI
  have fq : Fr mQ s s := Fr.rf
  refine G_iload_n (i := 1) C 1 dX10_ofBorough_0 rfl rfl rfl ?_
  refine G_tsIn C 44 (2) rfl dX10_ofBorough_1 (by decide) rfl rfl ?_
  refine G_aload_n (i := 0) C 45 dX10_ofBorough_44 rfl rfl rfl ?_
  refine X10_57g C 48 dX10_ofBorough_45 rfl ?_
  refine X10_100g C (Or.inl rfl) 51 dX10_ofBorough_48 rfl (fun x48 ex48 => ?_)
  have Sx48 : x48 = P 0 2 := ex48.trans (cI_v fm 0 2)
  obtain ⟨mx48, hmx48, emx48⟩ := fm.2.2.1.2.2.2.2.2.2.2.1
  exact G_iret C dX10_ofBorough_51 (⟨rfl, Sx48⟩)
set_option maxHeartbeats 4000000 in
set_option maxRecDepth 100000 in
theorem c_X10_ofBorough_n (d : Nat) (TX : gTX) (P B s : gS) (hR0 : RC TX P B s) (x : Int32) (k : Nat) (hx : x = nI k) (hk : k ≤ 12) (hk3 : 3 ≤ k) : gMt SC yX10_ofBorough cX10_ofBorough 2 (some .int) (d + 2) (fun ad => [.ref (ad 0), .int x]) s (gQi SC (fun r s' => s' = s ∧ r = s_old P k)) := by
  obtain ⟨nT, n, l, hR⟩ := hR0
  have hI := hR.1
  have hn6 : n ≤ 6 := hI.2.2.1.2.1
  have hl6 : l < 6 := cI_l6 hI
  have hxn : x_n P = n := x_nOf hI.2.2.1.1 hn6
  have hbI := hR.2.2
  refine gMt_of SC_ok (by decide +kernel) (fun ad => [some (.ref (ad 0)), some (.int x)]) (fun _ => rfl) (fun _ => rfl) (fun _ => Nat.le_of_ble_eq_true rfl) (fun E C0 => ?_)
  have C : gCx SC E RX10 cX10_ofBorough 2 (some .int) (d + 2) := C0
  have fm : cI TX nT n l 45 P s := hI
  have fq : Fr mQ s s := Fr.rf
  refine G_iload_n (i := 1) C 1 dX10_ofBorough_0 rfl rfl rfl ?_
  by_cases c1 : x = 0
  ·
    exfalso; have := (g_eqN (b := 0) hx rfl (by omega) (by omega)).mp c1; omega
  by_cases c1_1 : x = 1
  ·
    exfalso; have := (g_eqN (b := 1) hx rfl (by omega) (by omega)).mp c1_1; omega
  by_cases c1_2 : x = 2
  ·
    exfalso; have := (g_eqN (b := 2) hx rfl (by omega) (by omega)).mp c1_2; omega
  refine G_tsOut C 52 dX10_ofBorough_1 (by
    have e0 := g_ti (k := 0) 0 rfl c1
    have e1 := g_ti (k := 1) 1 rfl c1_1
    have e2 := g_ti (k := 2) 2 rfl c1_2
    omega) rfl ?_
  refine G_iload_n (i := 1) C 53 dX10_ofBorough_52 rfl rfl rfl ?_
  refine G_iconst (v := 3) C 54 dX10_ofBorough_53 rfl rfl ?_
  refine G_bipush (v := 12) C 56 dX10_ofBorough_54 rfl rfl ?_
  refine G_calli 59 (G_runS C Kc_X10_within KS_X10_112 (by omega) (c_X10_within 0 x 3 12 s) rfl rfl (Nat.le_of_ble_eq_true rfl) rfl dX10_ofBorough_56) rfl (fun x56 s56 h56 => ?_)
  obtain ⟨es56, h56⟩ := h56
  have es56 := es56.symm
  subst es56
  refine G_if_eq C 76 62 dX10_ofBorough_59 rfl rfl (fun c59 => ?_) (fun c59 => ?_)
  ·
    exfalso; rcases x_inF.mp (h56.symm.trans c59) with q | q
    · have := (g_ltN (b := 3) hx rfl (by omega) (by omega)).mp q; omega
    · have := (g_ltN (a := 12) rfl hx (by omega) (by omega)).mp q; omega
  ·
    have k59 := g_neT h56 c59
    refine G_aload_n (i := 0) C 63 dX10_ofBorough_62 rfl rfl rfl ?_
    refine X10_57g C 66 dX10_ofBorough_63 rfl ?_
    refine X10_125g C (Or.inl rfl) 69 dX10_ofBorough_66 rfl ?_
    refine G_iload_n (i := 1) C 70 dX10_ofBorough_69 rfl rfl rfl ?_
    refine G_iconst (v := 3) C 71 dX10_ofBorough_70 rfl rfl ?_
    refine G_isub C 72 dX10_ofBorough_71 rfl (fun x71 ex71 => ?_)
    have Nx71 : x71 = nI (k - 3) := g_subN ex71 hx rfl hk3
    refine G_iald (n := 10) C 73 (lW (Or.inl rfl) (by decide)) (eWe _ _ _ (Or.inl rfl)) ((k - 3)) Nx71 (by omega) (by decide) dX10_ofBorough_72 rfl (fun x72 ex72 => ?_)
    have Sx72 : x72 = P 1 ((k - 3)) := ex72.trans (congrFun (congrFun fm.2.1 1) _)
    refine G_goto C 78 dX10_ofBorough_73 rfl ?_
    exact G_iret C dX10_ofBorough_78 (⟨rfl, Sx72.trans (if_neg (by omega)).symm⟩)
theorem c_X10_ofBorough (d : Nat) (TX : gTX) (P B s : gS) (hR0 : RC TX P B s) (x : Int32) (k : Nat) (hx : x = nI k) (hk : k ≤ 12) : gMt SC yX10_ofBorough cX10_ofBorough 2 (some .int) (d + 2) (fun ad => [.ref (ad 0), .int x]) s (gQi SC (fun r s' => s' = s ∧ r = s_old P k)) := by
  rcases Nat.lt_or_ge k 3 with h | h
  · subst hx
    have : k = 0 ∨ k = 1 ∨ k = 2 := by omega
    rcases this with rfl | rfl | rfl
    · exact c_X10_ofBorough_0 d TX P B s hR0
    · exact c_X10_ofBorough_1 d TX P B s hR0
    · exact c_X10_ofBorough_2 d TX P B s hR0
  · exact c_X10_ofBorough_n d TX P B s hR0 x k hx hk h
theorem dX10_count_0 : decode cX10_count 0 = .ok (.iload_n 1, 1) := by decide +kernel
theorem dX10_count_1 : decode cX10_count 1 = .ok (.tableswitch 87 0 5 #[39, 47, 55, 66, 71, 79], 39) := by decide +kernel
theorem dX10_count_40 : decode cX10_count 40 = .ok (.aload_n 0, 1) := by decide +kernel
theorem dX10_count_41 : decode cX10_count 41 = .ok (.getfield 57, 3) := by decide +kernel
theorem dX10_count_44 : decode cX10_count 44 = .ok (.getfield 94, 3) := by decide +kernel
theorem dX10_count_47 : decode cX10_count 47 = .ok (.ireturn, 1) := by decide +kernel
theorem dX10_count_48 : decode cX10_count 48 = .ok (.aload_n 0, 1) := by decide +kernel
theorem dX10_count_49 : decode cX10_count 49 = .ok (.getfield 57, 3) := by decide +kernel
theorem dX10_count_52 : decode cX10_count 52 = .ok (.getfield 97, 3) := by decide +kernel
theorem dX10_count_55 : decode cX10_count 55 = .ok (.ireturn, 1) := by decide +kernel
theorem dX10_count_56 : decode cX10_count 56 = .ok (.aload_n 0, 1) := by decide +kernel
theorem dX10_count_57 : decode cX10_count 57 = .ok (.getfield 57, 3) := by decide +kernel
theorem dX10_count_60 : decode cX10_count 60 = .ok (.getfield 100, 3) := by decide +kernel
theorem dX10_count_63 : decode cX10_count 63 = .ok (.invokestatic 103, 3) := by decide +kernel
theorem dX10_count_66 : decode cX10_count 66 = .ok (.ireturn, 1) := by decide +kernel
theorem dX10_count_67 : decode cX10_count 67 = .ok (.aload_n 0, 1) := by decide +kernel
theorem dX10_count_68 : decode cX10_count 68 = .ok (.getfield 91, 3) := by decide +kernel
theorem dX10_count_71 : decode cX10_count 71 = .ok (.ireturn, 1) := by decide +kernel
theorem dX10_count_72 : decode cX10_count 72 = .ok (.aload_n 0, 1) := by decide +kernel
theorem dX10_count_73 : decode cX10_count 73 = .ok (.getfield 57, 3) := by decide +kernel
theorem dX10_count_76 : decode cX10_count 76 = .ok (.getfield 109, 3) := by decide +kernel
theorem dX10_count_79 : decode cX10_count 79 = .ok (.ireturn, 1) := by decide +kernel
theorem dX10_count_80 : decode cX10_count 80 = .ok (.aload_n 0, 1) := by decide +kernel
theorem dX10_count_81 : decode cX10_count 81 = .ok (.getfield 24, 3) := by decide +kernel
theorem dX10_count_84 : decode cX10_count 84 = .ok (.getfield 87, 3) := by decide +kernel
theorem dX10_count_87 : decode cX10_count 87 = .ok (.ireturn, 1) := by decide +kernel
theorem dX10_count_88 : decode cX10_count 88 = .ok (.bipush (-2), 2) := by decide +kernel
theorem dX10_count_90 : decode cX10_count 90 = .ok (.ireturn, 1) := by decide +kernel
set_option maxHeartbeats 4000000 in
set_option maxRecDepth 100000 in
theorem c_X10_count (d : Nat) (TX : gTX) (P B s : gS) (hR0 : RC TX P B s) (q : Int32) : gMt SC yX10_count cX10_count 2 (some .int) (d + 2) (fun ad => [.ref (ad 0), .int q]) s (gQi SC (fun r s' => RC TX P B s' ∧ r = s_count P B q)) := by
  obtain ⟨nT, n, l, hR⟩ := hR0
  have hI := hR.1
  have hn6 : n ≤ 6 := hI.2.2.1.2.1
  have hl6 : l < 6 := cI_l6 hI
  have hxn : x_n P = n := x_nOf hI.2.2.1.1 hn6
  have hbI := hR.2.2
  refine gMt_of SC_ok (by decide +kernel) (fun ad => [some (.ref (ad 0)), some (.int q)]) (fun _ => rfl) (fun _ => rfl) (fun _ => Nat.le_of_ble_eq_true rfl) (fun E C0 => ?_)
  have C : gCx SC E RX10 cX10_count 2 (some .int) (d + 2) := C0
  have fm : cI TX nT n l 45 P s := hI
  have fq : Fr mQ s s := Fr.rf
  refine G_iload_n (i := 1) C 1 dX10_count_0 rfl rfl rfl ?_
  by_cases c1 : q = 0
  ·
    refine G_tsIn C 40 (0) c1 dX10_count_1 (by decide) rfl rfl ?_
    refine G_aload_n (i := 0) C 41 dX10_count_40 rfl rfl rfl ?_
    refine X10_57g C 44 dX10_count_41 rfl ?_
    refine X10_94g C (Or.inl rfl) 47 dX10_count_44 rfl (fun x44 ex44 => ?_)
    have Sx44 : x44 = nI n := ex44.trans (cI_n fm)
    exact G_iret C dX10_count_47 (⟨RC_q hR fq, (Sx44.trans hI.2.2.1.1.symm).trans (by unfold s_count; rw [if_pos c1] <;> rfl)⟩)
  by_cases c1_1 : q = 1
  ·
    refine G_tsIn C 48 (1) c1_1 dX10_count_1 (by decide) rfl rfl ?_
    refine G_aload_n (i := 0) C 49 dX10_count_48 rfl rfl rfl ?_
    refine X10_57g C 52 dX10_count_49 rfl ?_
    refine X10_97g C (Or.inl rfl) 55 dX10_count_52 rfl (fun x52 ex52 => ?_)
    have Sx52 : x52 = P 0 0 := ex52.trans (cI_v fm 0 0)
    exact G_iret C dX10_count_55 (⟨RC_q hR fq, (Sx52).trans (by unfold s_count; rw [if_neg c1, if_pos c1_1] <;> rfl)⟩)
  by_cases c1_2 : q = 2
  ·
    refine G_tsIn C 56 (2) c1_2 dX10_count_1 (by decide) rfl rfl ?_
    refine G_aload_n (i := 0) C 57 dX10_count_56 rfl rfl rfl ?_
    refine X10_57g C 60 dX10_count_57 rfl ?_
    refine X10_100g C (Or.inl rfl) 63 dX10_count_60 rfl (fun x60 ex60 => ?_)
    have Sx60 : x60 = P 0 2 := ex60.trans (cI_v fm 0 2)
    obtain ⟨mx60, hmx60, emx60⟩ := fm.2.2.1.2.2.2.2.2.2.2.1
    refine G_calli 66 (G_runS C Kc_J6_bitCount_0f7a4 KS_X10_103 (by omega) (c_J6_bitCount_0f7a4 0 mx60 (by omega) x60 (Sx60.trans emx60) s) rfl rfl (Nat.le_of_ble_eq_true rfl) rfl dX10_count_63) rfl (fun x63 s63 h63 => ?_)
    obtain ⟨es63, h63⟩ := h63
    have es63 := es63.symm
    subst es63
    exact G_iret C dX10_count_66 (⟨RC_q hR fq, (h63.trans (congrArg x_cnt Sx60)).trans (by unfold s_count; rw [if_neg c1, if_neg c1_1, if_pos c1_2] <;> rfl)⟩)
  by_cases c1_3 : q = 3
  ·
    refine G_tsIn C 67 (3) c1_3 dX10_count_1 (by decide) rfl rfl ?_
    refine G_aload_n (i := 0) C 68 dX10_count_67 rfl rfl rfl ?_
    refine X10_91g C 71 dX10_count_68 rfl (fun x68 ex68 => ?_)
    have Sx68 : x68 = nI nT := ex68.trans ((congrFun (congrFun (Rc_q hR fq).2.1 0) 0).trans hbI.1)
    exact G_iret C dX10_count_71 (⟨RC_q hR fq, (Sx68.trans hbI.1.symm).trans (by unfold s_count; rw [if_neg c1, if_neg c1_1, if_neg c1_2, if_pos c1_3] <;> rfl)⟩)
  by_cases c1_4 : q = 4
  ·
    refine G_tsIn C 72 (4) c1_4 dX10_count_1 (by decide) rfl rfl ?_
    refine G_aload_n (i := 0) C 73 dX10_count_72 rfl rfl rfl ?_
    refine X10_57g C 76 dX10_count_73 rfl ?_
    refine X10_109g C (Or.inl rfl) 79 dX10_count_76 rfl (fun x76 ex76 => ?_)
    have Sx76 : x76 = nI l := ex76.trans ((cI_v fm 0 3).trans fm.2.2.1.2.2.1)
    exact G_iret C dX10_count_79 (⟨RC_q hR fq, (Sx76.trans hI.2.2.1.2.2.1.symm).trans (by unfold s_count; rw [if_neg c1, if_neg c1_1, if_neg c1_2, if_neg c1_3, if_pos c1_4] <;> rfl)⟩)
  by_cases c1_5 : q = 5
  ·
    refine G_tsIn C 80 (5) c1_5 dX10_count_1 (by decide) rfl rfl ?_
    refine G_aload_n (i := 0) C 81 dX10_count_80 rfl rfl rfl ?_
    refine X10_24g C 84 dX10_count_81 rfl ?_
    refine X10_87g C 87 dX10_count_84 rfl (fun x84 ex84 => ?_)
    have Sx84 : x84 = B 0 1 := ex84.trans (congrFun (congrFun (Rc_q hR fq).2.1 0) 1)
    exact G_iret C dX10_count_87 (⟨RC_q hR fq, (Sx84).trans (by unfold s_count; rw [if_neg c1, if_neg c1_1, if_neg c1_2, if_neg c1_3, if_neg c1_4, if_pos c1_5] <;> rfl)⟩)
  refine G_tsOut C 88 dX10_count_1 (by
    have e0 := g_ti (k := 0) 0 rfl c1
    have e1 := g_ti (k := 1) 1 rfl c1_1
    have e2 := g_ti (k := 2) 2 rfl c1_2
    have e3 := g_ti (k := 3) 3 rfl c1_3
    have e4 := g_ti (k := 4) 4 rfl c1_4
    have e5 := g_ti (k := 5) 5 rfl c1_5
    omega) rfl ?_
  refine G_bipush (v := (-2)) C 90 dX10_count_88 rfl rfl ?_
  exact G_iret C dX10_count_90 (⟨RC_q hR fq, by unfold s_count; rw [if_neg c1, if_neg c1_1, if_neg c1_2, if_neg c1_3, if_neg c1_4, if_neg c1_5] <;> rfl⟩)
