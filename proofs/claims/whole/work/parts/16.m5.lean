theorem dX9_isOne_0 : decode cX9_isOne 0 = .ok (.iload_n 1, 1) := by decide +kernel
theorem dX9_isOne_1 : decode cX9_isOne 1 = .ok (.ifCond .lt 15, 3) := by decide +kernel
theorem dX9_isOne_4 : decode cX9_isOne 4 = .ok (.iload_n 1, 1) := by decide +kernel
theorem dX9_isOne_5 : decode cX9_isOne 5 = .ok (.aload_n 0, 1) := by decide +kernel
theorem dX9_isOne_6 : decode cX9_isOne 6 = .ok (.getfield 57, 3) := by decide +kernel
theorem dX9_isOne_9 : decode cX9_isOne 9 = .ok (.if_icmp .ge 7, 3) := by decide +kernel
theorem dX9_isOne_12 : decode cX9_isOne 12 = .ok (.iconst 1, 1) := by decide +kernel
theorem dX9_isOne_13 : decode cX9_isOne 13 = .ok (.goto 4, 3) := by decide +kernel
theorem dX9_isOne_16 : decode cX9_isOne 16 = .ok (.iconst 0, 1) := by decide +kernel
theorem dX9_isOne_17 : decode cX9_isOne 17 = .ok (.ireturn, 1) := by decide +kernel
set_option maxHeartbeats 4000000 in
set_option maxRecDepth 100000 in
theorem c_X9_isOne (d : Nat) (w n : Nat) (hw : isW w) (s : gS) (hn : s w 6 = nI n) (x : Int32) : gMt SC yX9_isOne cX9_isOne 2 (some .boolean) (d + 1) (fun ad => [.ref (ad w), .int x]) s (gQi SC (fun r s' => s' = s ∧ r = x_one x n)) := by
  refine gMt_of SC_ok (by decide +kernel) (fun ad => [some (.ref (ad w)), some (.int x)]) (fun _ => rfl) (fun _ => rfl) (fun _ => Nat.le_of_ble_eq_true rfl) (fun E C0 => ?_)
  have C : gCx SC E RX9 cX9_isOne 2 (some .boolean) (d + 1) := C0
  refine G_iload_n (i := 1) C 1 dX9_isOne_0 rfl rfl rfl ?_
  refine G_if_lt C 16 4 dX9_isOne_1 rfl rfl (fun c1 => ?_) (fun c1 => ?_)
  ·
    refine G_iconst (v := 0) C 17 dX9_isOne_16 rfl rfl ?_
    exact G_zret C rfl dX9_isOne_17 (⟨rfl, by first | (rw [Sx6] at c9; simp [x_one, c1, c9]; done) | (simp [x_one, c1]; done)⟩)
  ·
    refine G_iload_n (i := 1) C 5 dX9_isOne_4 rfl rfl rfl ?_
    refine G_aload_n (i := 0) C 6 dX9_isOne_5 rfl rfl rfl ?_
    refine X9_57g C hw 9 dX9_isOne_6 rfl (fun x6 ex6 => ?_)
    have Sx6 : x6 = nI n := ex6.trans hn
    refine G_icmp_ge C 16 12 dX9_isOne_9 rfl rfl (fun c9 => ?_) (fun c9 => ?_)
    ·
      refine G_iconst (v := 0) C 17 dX9_isOne_16 rfl rfl ?_
      exact G_zret C rfl dX9_isOne_17 (⟨rfl, by first | (rw [Sx6] at c9; simp [x_one, c1, c9]; done) | (simp [x_one, c1]; done)⟩)
    ·
      refine G_iconst (v := 1) C 13 dX9_isOne_12 rfl rfl ?_
      refine G_goto C 17 dX9_isOne_13 rfl ?_
      exact G_zret C rfl dX9_isOne_17 (⟨rfl, by first | (rw [Sx6] at c9; simp [x_one, c1, c9]; done) | (simp [x_one, c1]; done)⟩)
theorem dX9_peopleAt_0 : decode cX9_peopleAt 0 = .ok (.iconst 0, 1) := by decide +kernel
theorem dX9_peopleAt_1 : decode cX9_peopleAt 1 = .ok (.istore_n 2, 1) := by decide +kernel
theorem dX9_peopleAt_2 : decode cX9_peopleAt 2 = .ok (.iconst 0, 1) := by decide +kernel
theorem dX9_peopleAt_3 : decode cX9_peopleAt 3 = .ok (.istore_n 3, 1) := by decide +kernel
theorem dX9_peopleAt_4 : decode cX9_peopleAt 4 = .ok (.iload_n 3, 1) := by decide +kernel
theorem dX9_peopleAt_5 : decode cX9_peopleAt 5 = .ok (.aload_n 0, 1) := by decide +kernel
theorem dX9_peopleAt_6 : decode cX9_peopleAt 6 = .ok (.getfield 57, 3) := by decide +kernel
theorem dX9_peopleAt_9 : decode cX9_peopleAt 9 = .ok (.if_icmp .ge 25, 3) := by decide +kernel
theorem dX9_peopleAt_12 : decode cX9_peopleAt 12 = .ok (.aload_n 0, 1) := by decide +kernel
theorem dX9_peopleAt_13 : decode cX9_peopleAt 13 = .ok (.getfield 19, 3) := by decide +kernel
theorem dX9_peopleAt_16 : decode cX9_peopleAt 16 = .ok (.iload_n 3, 1) := by decide +kernel
theorem dX9_peopleAt_17 : decode cX9_peopleAt 17 = .ok (.iaload, 1) := by decide +kernel
theorem dX9_peopleAt_18 : decode cX9_peopleAt 18 = .ok (.iload_n 1, 1) := by decide +kernel
theorem dX9_peopleAt_19 : decode cX9_peopleAt 19 = .ok (.if_icmp .ne 9, 3) := by decide +kernel
theorem dX9_peopleAt_22 : decode cX9_peopleAt 22 = .ok (.iload_n 2, 1) := by decide +kernel
theorem dX9_peopleAt_23 : decode cX9_peopleAt 23 = .ok (.iconst 1, 1) := by decide +kernel
theorem dX9_peopleAt_24 : decode cX9_peopleAt 24 = .ok (.iload_n 3, 1) := by decide +kernel
theorem dX9_peopleAt_25 : decode cX9_peopleAt 25 = .ok (.ishl, 1) := by decide +kernel
theorem dX9_peopleAt_26 : decode cX9_peopleAt 26 = .ok (.ior, 1) := by decide +kernel
theorem dX9_peopleAt_27 : decode cX9_peopleAt 27 = .ok (.istore_n 2, 1) := by decide +kernel
theorem dX9_peopleAt_28 : decode cX9_peopleAt 28 = .ok (.iinc 3 1, 3) := by decide +kernel
theorem dX9_peopleAt_31 : decode cX9_peopleAt 31 = .ok (.goto (-27), 3) := by decide +kernel
theorem dX9_peopleAt_34 : decode cX9_peopleAt 34 = .ok (.iload_n 2, 1) := by decide +kernel
theorem dX9_peopleAt_35 : decode cX9_peopleAt 35 = .ok (.ireturn, 1) := by decide +kernel
set_option maxHeartbeats 4000000 in
set_option maxRecDepth 100000 in
theorem c_X9_peopleAt (d : Nat) (TX : gTX) (nT n l w : Nat) (P s : gS) (hI : cI TX nT n l w P s) (c : Int32) : gMt SC yX9_peopleAt cX9_peopleAt 4 (some .int) (d + 1) (fun ad => [.ref (ad w), .int c]) s (gQi SC (fun r s' => s' = s ∧ r = x_at P c n)) := by
  have hw := hI.1
  have hn6 : n ≤ 6 := hI.2.2.1.2.1
  have hl6 : l < 6 := cI_l6 hI
  refine gMt_of SC_ok (by decide +kernel) (fun ad => [some (.ref (ad w)), some (.int c), none, none]) (fun _ => rfl) (fun _ => rfl) (fun _ => Nat.le_of_ble_eq_true rfl) (fun E C0 => ?_)
  have C : gCx SC E RX9 cX9_peopleAt 4 (some .int) (d + 1) := C0
  have i : cI TX nT n l w P s := hI
  have f : Fr mS s s := Fr.rf
  refine G_iconst (v := 0) C 1 dX9_peopleAt_0 rfl rfl ?_
  refine G_istore_n (i := 2) (L' := [some (.ref (e_ad E w)), some (.int c), some (.int 0), none]) C 2 dX9_peopleAt_1 rfl rfl (Nat.le_of_ble_eq_true rfl) rfl rfl ?_
  refine G_iconst (v := 0) C 3 dX9_peopleAt_2 rfl rfl ?_
  refine G_istore_n (i := 3) (L' := [some (.ref (e_ad E w)), some (.int c), some (.int 0), some (.int 0)]) C 4 dX9_peopleAt_3 rfl rfl (Nat.le_of_ble_eq_true rfl) rfl rfl ?_
  have L4 : ∀ (f4 : Nat) (k : Nat) (a x : Int32) (Ex : x = nI k) (hk : k ≤ n) (ha : a = x_at P c k), n < k + f4 → GW SC E (gFin SC E (gQi SC (fun r s' => s' = s ∧ r = x_at P c n))) 4 [some (.ref (e_ad E w)), some (.int c), some (.int a), some (.int x)] [] s := by
    intro f4
    induction f4 with
    | zero =>
      intro k a x Ex hk ha hf4
      exact absurd hf4 (by omega)
    | succ f4 ih4 =>
      intro k a x Ex hk ha hf4
      refine G_iload_n (i := 3) C 5 dX9_peopleAt_4 rfl rfl rfl ?_
      refine G_aload_n (i := 0) C 6 dX9_peopleAt_5 rfl rfl rfl ?_
      refine X9_57g C hw 9 dX9_peopleAt_6 rfl (fun x6 ex6 => ?_)
      have Sx6 : x6 = nI n := ex6.trans (cI_n i)
      refine G_icmp_ge C 34 12 dX9_peopleAt_9 rfl rfl (fun c9 => ?_) (fun c9 => ?_)
      ·
        have n9 : ¬ k < n := fun h => c9 ((g_ltN (a := k) (b := n) (hx := Ex) (hy := Sx6) (by omega) (by omega)).mpr h)
        refine G_iload_n (i := 2) C 35 dX9_peopleAt_34 rfl rfl rfl ?_
        exact G_iret C dX9_peopleAt_35 (⟨rfl, by rw [ha, show k = n by omega]⟩)
      ·
        have n9 : k < n := (g_ltN (a := k) (b := n) (hx := Ex) (hy := Sx6) (by omega) (by omega)).mp c9
        refine G_aload_n (i := 0) C 13 dX9_peopleAt_12 rfl rfl rfl ?_
        refine X9_19g C hw 16 dX9_peopleAt_13 rfl ?_
        refine G_iload_n (i := 3) C 17 dX9_peopleAt_16 rfl rfl rfl ?_
        refine G_iald (n := 6) C 18 (lW hw (by decide)) (eW2 _ _ _ hw) (k) Ex (by omega) (by decide) dX9_peopleAt_17 rfl (fun x17 ex17 => ?_)
        have Sx17 : x17 = P 2 (k) := ex17.trans (congrFun (congrFun i.2.1 2) _)
        refine G_iload_n (i := 1) C 19 dX9_peopleAt_18 rfl rfl rfl ?_
        refine G_icmp_ne C 28 22 dX9_peopleAt_19 rfl rfl (fun c19 => ?_) (fun c19 => ?_)
        ·
          refine G_iinc (w := 1) C 31 dX9_peopleAt_28 rfl rfl rfl rfl (fun x28 ex28 => ?_)
          have Nx28 : x28 = nI (k + 1) := g_addN ex28 Ex rfl
          show GW SC E _ 31 [some (.ref (e_ad E w)), some (.int c), some (.int a), some (.int x28)] [] s
          refine G_goto C 4 dX9_peopleAt_31 rfl ?_
          exact ih4 (k + 1) a x28  (g_cn (a := (k + 1)) Nx28 (by first | rfl | omega | (simp only [List.length_cons, List.length_drop]; done) | (simp only [List.length_cons, List.length_drop]; omega))) (by omega) (by rw [x_at, if_neg (by rw [← Sx17]; exact c19), ha]) (by omega)
        ·
          refine G_iload_n (i := 2) C 23 dX9_peopleAt_22 rfl rfl rfl ?_
          refine G_iconst (v := 1) C 24 dX9_peopleAt_23 rfl rfl ?_
          refine G_iload_n (i := 3) C 25 dX9_peopleAt_24 rfl rfl rfl ?_
          refine G_ishl C 26 dX9_peopleAt_25 rfl (fun x25 ex25 => ?_)
          refine G_ior C 27 dX9_peopleAt_26 rfl (fun x26 ex26 => ?_)
          refine G_istore_n (i := 2) (L' := [some (.ref (e_ad E w)), some (.int c), some (.int x26), some (.int x)]) C 28 dX9_peopleAt_27 rfl rfl (Nat.le_of_ble_eq_true rfl) rfl rfl ?_
          refine G_iinc (w := 1) C 31 dX9_peopleAt_28 rfl rfl rfl rfl (fun x28 ex28 => ?_)
          have Nx28 : x28 = nI (k + 1) := g_addN ex28 Ex rfl
          show GW SC E _ 31 [some (.ref (e_ad E w)), some (.int c), some (.int x26), some (.int x28)] [] s
          refine G_goto C 4 dX9_peopleAt_31 rfl ?_
          exact ih4 (k + 1) x26 x28  (g_cn (a := (k + 1)) Nx28 (by first | rfl | omega | (simp only [List.length_cons, List.length_drop]; done) | (simp only [List.length_cons, List.length_drop]; omega))) (by omega) (by rw [x_at, if_pos (Sx17.symm.trans c19), ex26, ex25, Ex, ha]) (by omega)
  exact L4 (n + 1) 0 0 0  (g_cn (a := 0) rfl (by first | rfl | omega)) (by omega) (rfl) (by omega)
theorem dX9_listenersAt_0 : decode cX9_listenersAt 0 = .ok (.iconst 0, 1) := by decide +kernel
theorem dX9_listenersAt_1 : decode cX9_listenersAt 1 = .ok (.istore_n 2, 1) := by decide +kernel
theorem dX9_listenersAt_2 : decode cX9_listenersAt 2 = .ok (.iconst 0, 1) := by decide +kernel
theorem dX9_listenersAt_3 : decode cX9_listenersAt 3 = .ok (.istore_n 3, 1) := by decide +kernel
theorem dX9_listenersAt_4 : decode cX9_listenersAt 4 = .ok (.iload_n 3, 1) := by decide +kernel
theorem dX9_listenersAt_5 : decode cX9_listenersAt 5 = .ok (.aload_n 0, 1) := by decide +kernel
theorem dX9_listenersAt_6 : decode cX9_listenersAt 6 = .ok (.getfield 57, 3) := by decide +kernel
theorem dX9_listenersAt_9 : decode cX9_listenersAt 9 = .ok (.if_icmp .ge 33, 3) := by decide +kernel
theorem dX9_listenersAt_12 : decode cX9_listenersAt 12 = .ok (.aload_n 0, 1) := by decide +kernel
theorem dX9_listenersAt_13 : decode cX9_listenersAt 13 = .ok (.getfield 19, 3) := by decide +kernel
theorem dX9_listenersAt_16 : decode cX9_listenersAt 16 = .ok (.iload_n 3, 1) := by decide +kernel
theorem dX9_listenersAt_17 : decode cX9_listenersAt 17 = .ok (.iaload, 1) := by decide +kernel
theorem dX9_listenersAt_18 : decode cX9_listenersAt 18 = .ok (.iload_n 1, 1) := by decide +kernel
theorem dX9_listenersAt_19 : decode cX9_listenersAt 19 = .ok (.if_icmp .ne 17, 3) := by decide +kernel
theorem dX9_listenersAt_22 : decode cX9_listenersAt 22 = .ok (.aload_n 0, 1) := by decide +kernel
theorem dX9_listenersAt_23 : decode cX9_listenersAt 23 = .ok (.iload_n 3, 1) := by decide +kernel
theorem dX9_listenersAt_24 : decode cX9_listenersAt 24 = .ok (.invokevirtual 108, 3) := by decide +kernel
theorem dX9_listenersAt_27 : decode cX9_listenersAt 27 = .ok (.ifCond .eq 9, 3) := by decide +kernel
theorem dX9_listenersAt_30 : decode cX9_listenersAt 30 = .ok (.iload_n 2, 1) := by decide +kernel
theorem dX9_listenersAt_31 : decode cX9_listenersAt 31 = .ok (.iconst 1, 1) := by decide +kernel
theorem dX9_listenersAt_32 : decode cX9_listenersAt 32 = .ok (.iload_n 3, 1) := by decide +kernel
theorem dX9_listenersAt_33 : decode cX9_listenersAt 33 = .ok (.ishl, 1) := by decide +kernel
theorem dX9_listenersAt_34 : decode cX9_listenersAt 34 = .ok (.ior, 1) := by decide +kernel
theorem dX9_listenersAt_35 : decode cX9_listenersAt 35 = .ok (.istore_n 2, 1) := by decide +kernel
theorem dX9_listenersAt_36 : decode cX9_listenersAt 36 = .ok (.iinc 3 1, 3) := by decide +kernel
theorem dX9_listenersAt_39 : decode cX9_listenersAt 39 = .ok (.goto (-35), 3) := by decide +kernel
theorem dX9_listenersAt_42 : decode cX9_listenersAt 42 = .ok (.iload_n 2, 1) := by decide +kernel
theorem dX9_listenersAt_43 : decode cX9_listenersAt 43 = .ok (.ireturn, 1) := by decide +kernel
set_option maxHeartbeats 4000000 in
set_option maxRecDepth 100000 in
theorem c_X9_listenersAt (d : Nat) (TX : gTX) (nT n l w : Nat) (P s : gS) (hI : cI TX nT n l w P s) (c : Int32) : gMt SC yX9_listenersAt cX9_listenersAt 4 (some .int) (d + 7) (fun ad => [.ref (ad w), .int c]) s (gQi SC (fun r s' => s' = s ∧ r = x_lisAt P c n)) := by
  have hw := hI.1
  have hn6 : n ≤ 6 := hI.2.2.1.2.1
  have hl6 : l < 6 := cI_l6 hI
  refine gMt_of SC_ok (by decide +kernel) (fun ad => [some (.ref (ad w)), some (.int c), none, none]) (fun _ => rfl) (fun _ => rfl) (fun _ => Nat.le_of_ble_eq_true rfl) (fun E C0 => ?_)
  have C : gCx SC E RX9 cX9_listenersAt 4 (some .int) (d + 7) := C0
  have i : cI TX nT n l w P s := hI
  have f : Fr mS s s := Fr.rf
  refine G_iconst (v := 0) C 1 dX9_listenersAt_0 rfl rfl ?_
  refine G_istore_n (i := 2) (L' := [some (.ref (e_ad E w)), some (.int c), some (.int 0), none]) C 2 dX9_listenersAt_1 rfl rfl (Nat.le_of_ble_eq_true rfl) rfl rfl ?_
  refine G_iconst (v := 0) C 3 dX9_listenersAt_2 rfl rfl ?_
  refine G_istore_n (i := 3) (L' := [some (.ref (e_ad E w)), some (.int c), some (.int 0), some (.int 0)]) C 4 dX9_listenersAt_3 rfl rfl (Nat.le_of_ble_eq_true rfl) rfl rfl ?_
  have L4 : ∀ (f4 : Nat) (k : Nat) (a x : Int32) (Ex : x = nI k) (hk : k ≤ n) (ha : a = x_lisAt P c k), n < k + f4 → GW SC E (gFin SC E (gQi SC (fun r s' => s' = s ∧ r = x_lisAt P c n))) 4 [some (.ref (e_ad E w)), some (.int c), some (.int a), some (.int x)] [] s := by
    intro f4
    induction f4 with
    | zero =>
      intro k a x Ex hk ha hf4
      exact absurd hf4 (by omega)
    | succ f4 ih4 =>
      intro k a x Ex hk ha hf4
      refine G_iload_n (i := 3) C 5 dX9_listenersAt_4 rfl rfl rfl ?_
      refine G_aload_n (i := 0) C 6 dX9_listenersAt_5 rfl rfl rfl ?_
      refine X9_57g C hw 9 dX9_listenersAt_6 rfl (fun x6 ex6 => ?_)
      have Sx6 : x6 = nI n := ex6.trans (cI_n i)
      refine G_icmp_ge C 42 12 dX9_listenersAt_9 rfl rfl (fun c9 => ?_) (fun c9 => ?_)
      ·
        have n9 : ¬ k < n := fun h => c9 ((g_ltN (a := k) (b := n) (hx := Ex) (hy := Sx6) (by omega) (by omega)).mpr h)
        refine G_iload_n (i := 2) C 43 dX9_listenersAt_42 rfl rfl rfl ?_
        exact G_iret C dX9_listenersAt_43 (⟨rfl, by rw [ha, show k = n by omega]⟩)
      ·
        have n9 : k < n := (g_ltN (a := k) (b := n) (hx := Ex) (hy := Sx6) (by omega) (by omega)).mp c9
        refine G_aload_n (i := 0) C 13 dX9_listenersAt_12 rfl rfl rfl ?_
        refine X9_19g C hw 16 dX9_listenersAt_13 rfl ?_
        refine G_iload_n (i := 3) C 17 dX9_listenersAt_16 rfl rfl rfl ?_
        refine G_iald (n := 6) C 18 (lW hw (by decide)) (eW2 _ _ _ hw) (k) Ex (by omega) (by decide) dX9_listenersAt_17 rfl (fun x17 ex17 => ?_)
        have Sx17 : x17 = P 2 (k) := ex17.trans (congrFun (congrFun i.2.1 2) _)
        refine G_iload_n (i := 1) C 19 dX9_listenersAt_18 rfl rfl rfl ?_
        refine G_icmp_ne C 36 22 dX9_listenersAt_19 rfl rfl (fun c19 => ?_) (fun c19 => ?_)
        ·
          refine G_iinc (w := 1) C 39 dX9_listenersAt_36 rfl rfl rfl rfl (fun x36 ex36 => ?_)
          have Nx36 : x36 = nI (k + 1) := g_addN ex36 Ex rfl
          show GW SC E _ 39 [some (.ref (e_ad E w)), some (.int c), some (.int a), some (.int x36)] [] s
          refine G_goto C 4 dX9_listenersAt_39 rfl ?_
          exact ih4 (k + 1) a x36  (g_cn (a := (k + 1)) Nx36 (by first | rfl | omega | (simp only [List.length_cons, List.length_drop]; done) | (simp only [List.length_cons, List.length_drop]; omega))) (by omega) (by rw [x_lisAt, if_neg (by rw [← Sx17]; exact c19), ha]) (by omega)
        ·
          refine G_aload_n (i := 0) C 23 dX9_listenersAt_22 rfl rfl rfl ?_
          refine G_iload_n (i := 3) C 24 dX9_listenersAt_23 rfl rfl rfl ?_
          refine G_calli 27 (G_runV C Kc_X9_listens KV_X9_108 (by omega) (lW0 hw) (eW _ _ _ hw) rfl (c_X9_listens 0 TX nT n l w P s i x k Ex (by omega)) rfl rfl rfl (Nat.le_of_ble_eq_true rfl) rfl dX9_listenersAt_24) rfl (fun x24 s24 h24 => ?_)
          obtain ⟨es24, h24⟩ := h24
          have es24 := es24.symm
          subst es24
          refine G_if_eq C 36 30 dX9_listenersAt_27 rfl rfl (fun c27 => ?_) (fun c27 => ?_)
          ·
            refine G_iinc (w := 1) C 39 dX9_listenersAt_36 rfl rfl rfl rfl (fun x36 ex36 => ?_)
            have Nx36 : x36 = nI (k + 1) := g_addN ex36 Ex rfl
            show GW SC E _ 39 [some (.ref (e_ad E w)), some (.int c), some (.int a), some (.int x36)] [] s
            refine G_goto C 4 dX9_listenersAt_39 rfl ?_
            exact ih4 (k + 1) a x36  (g_cn (a := (k + 1)) Nx36 (by first | rfl | omega | (simp only [List.length_cons, List.length_drop]; done) | (simp only [List.length_cons, List.length_drop]; omega))) (by omega) (by rw [x_lisAt, if_pos (Sx17.symm.trans c19), if_pos (h24.symm.trans c27), ha]) (by omega)
          ·
            refine G_iload_n (i := 2) C 31 dX9_listenersAt_30 rfl rfl rfl ?_
            refine G_iconst (v := 1) C 32 dX9_listenersAt_31 rfl rfl ?_
            refine G_iload_n (i := 3) C 33 dX9_listenersAt_32 rfl rfl rfl ?_
            refine G_ishl C 34 dX9_listenersAt_33 rfl (fun x33 ex33 => ?_)
            refine G_ior C 35 dX9_listenersAt_34 rfl (fun x34 ex34 => ?_)
            refine G_istore_n (i := 2) (L' := [some (.ref (e_ad E w)), some (.int c), some (.int x34), some (.int x)]) C 36 dX9_listenersAt_35 rfl rfl (Nat.le_of_ble_eq_true rfl) rfl rfl ?_
            refine G_iinc (w := 1) C 39 dX9_listenersAt_36 rfl rfl rfl rfl (fun x36 ex36 => ?_)
            have Nx36 : x36 = nI (k + 1) := g_addN ex36 Ex rfl
            show GW SC E _ 39 [some (.ref (e_ad E w)), some (.int c), some (.int x34), some (.int x36)] [] s
            refine G_goto C 4 dX9_listenersAt_39 rfl ?_
            exact ih4 (k + 1) x34 x36  (g_cn (a := (k + 1)) Nx36 (by first | rfl | omega | (simp only [List.length_cons, List.length_drop]; done) | (simp only [List.length_cons, List.length_drop]; omega))) (by omega) (by rw [x_lisAt, if_pos (Sx17.symm.trans c19), if_neg (by rw [← h24]; exact c27), ex34, ex33, Ex, ha]) (by omega)
  exact L4 (n + 1) 0 0 0  (g_cn (a := 0) rfl (by first | rfl | omega)) (by omega) (rfl) (by omega)
theorem dX9_mayAt_0 : decode cX9_mayAt 0 = .ok (.iload_n 2, 1) := by decide +kernel
theorem dX9_mayAt_1 : decode cX9_mayAt 1 = .ok (.istore_n 3, 1) := by decide +kernel
theorem dX9_mayAt_2 : decode cX9_mayAt 2 = .ok (.iconst 0, 1) := by decide +kernel
theorem dX9_mayAt_3 : decode cX9_mayAt 3 = .ok (.istore 4, 2) := by decide +kernel
theorem dX9_mayAt_5 : decode cX9_mayAt 5 = .ok (.iload 4, 2) := by decide +kernel
theorem dX9_mayAt_7 : decode cX9_mayAt 7 = .ok (.aload_n 0, 1) := by decide +kernel
theorem dX9_mayAt_8 : decode cX9_mayAt 8 = .ok (.getfield 57, 3) := by decide +kernel
theorem dX9_mayAt_11 : decode cX9_mayAt 11 = .ok (.if_icmp .ge 45, 3) := by decide +kernel
theorem dX9_mayAt_14 : decode cX9_mayAt 14 = .ok (.aload_n 0, 1) := by decide +kernel
theorem dX9_mayAt_15 : decode cX9_mayAt 15 = .ok (.getfield 19, 3) := by decide +kernel
theorem dX9_mayAt_18 : decode cX9_mayAt 18 = .ok (.iload 4, 2) := by decide +kernel
theorem dX9_mayAt_20 : decode cX9_mayAt 20 = .ok (.iaload, 1) := by decide +kernel
theorem dX9_mayAt_21 : decode cX9_mayAt 21 = .ok (.iload_n 1, 1) := by decide +kernel
theorem dX9_mayAt_22 : decode cX9_mayAt 22 = .ok (.if_icmp .ne 28, 3) := by decide +kernel
theorem dX9_mayAt_25 : decode cX9_mayAt 25 = .ok (.iload_n 3, 1) := by decide +kernel
theorem dX9_mayAt_26 : decode cX9_mayAt 26 = .ok (.ifCond .eq 24, 3) := by decide +kernel
theorem dX9_mayAt_29 : decode cX9_mayAt 29 = .ok (.aload_n 0, 1) := by decide +kernel
theorem dX9_mayAt_30 : decode cX9_mayAt 30 = .ok (.iload 4, 2) := by decide +kernel
theorem dX9_mayAt_32 : decode cX9_mayAt 32 = .ok (.invokevirtual 108, 3) := by decide +kernel
theorem dX9_mayAt_35 : decode cX9_mayAt 35 = .ok (.ifCond .eq 15, 3) := by decide +kernel
theorem dX9_mayAt_38 : decode cX9_mayAt 38 = .ok (.iload_n 3, 1) := by decide +kernel
theorem dX9_mayAt_39 : decode cX9_mayAt 39 = .ok (.aload_n 0, 1) := by decide +kernel
theorem dX9_mayAt_40 : decode cX9_mayAt 40 = .ok (.iload 4, 2) := by decide +kernel
theorem dX9_mayAt_42 : decode cX9_mayAt 42 = .ok (.iload_n 3, 1) := by decide +kernel
theorem dX9_mayAt_43 : decode cX9_mayAt 43 = .ok (.invokevirtual 112, 3) := by decide +kernel
theorem dX9_mayAt_46 : decode cX9_mayAt 46 = .ok (.iconst (-1), 1) := by decide +kernel
theorem dX9_mayAt_47 : decode cX9_mayAt 47 = .ok (.ixor, 1) := by decide +kernel
theorem dX9_mayAt_48 : decode cX9_mayAt 48 = .ok (.iand, 1) := by decide +kernel
theorem dX9_mayAt_49 : decode cX9_mayAt 49 = .ok (.istore_n 3, 1) := by decide +kernel
theorem dX9_mayAt_50 : decode cX9_mayAt 50 = .ok (.iinc 4 1, 3) := by decide +kernel
theorem dX9_mayAt_53 : decode cX9_mayAt 53 = .ok (.goto (-48), 3) := by decide +kernel
theorem dX9_mayAt_56 : decode cX9_mayAt 56 = .ok (.iload_n 3, 1) := by decide +kernel
theorem dX9_mayAt_57 : decode cX9_mayAt 57 = .ok (.ireturn, 1) := by decide +kernel
set_option maxHeartbeats 4000000 in
set_option maxRecDepth 100000 in
theorem c_X9_mayAt (d : Nat) (TX : gTX) (nT n l w : Nat) (P s : gS) (hI : cI TX nT n l w P s) (c of : Int32) (hof : ∃ m, m < 1024 ∧ of = nI m) : gMt SC yX9_mayAt cX9_mayAt 5 (some .int) (d + 7) (fun ad => [.ref (ad w), .int c, .int of]) s (gQi SC (fun r s' => Fr mS s s' ∧ r = x_mays TX P c of)) := by
  have hw := hI.1
  have hn6 : n ≤ 6 := hI.2.2.1.2.1
  have hl6 : l < 6 := cI_l6 hI
  refine gMt_of SC_ok (by decide +kernel) (fun ad => [some (.ref (ad w)), some (.int c), some (.int of), none, none]) (fun _ => rfl) (fun _ => rfl) (fun _ => Nat.le_of_ble_eq_true rfl) (fun E C0 => ?_)
  have C : gCx SC E RX9 cX9_mayAt 5 (some .int) (d + 7) := C0
  have i : cI TX nT n l w P s := hI
  have f : Fr mS s s := Fr.rf
  refine G_iload_n (i := 2) C 1 dX9_mayAt_0 rfl rfl rfl ?_
  refine G_istore_n (i := 3) (L' := [some (.ref (e_ad E w)), some (.int c), some (.int of), some (.int of), none]) C 2 dX9_mayAt_1 rfl rfl (Nat.le_of_ble_eq_true rfl) rfl rfl ?_
  refine G_iconst (v := 0) C 3 dX9_mayAt_2 rfl rfl ?_
  refine G_istore (L' := [some (.ref (e_ad E w)), some (.int c), some (.int of), some (.int of), some (.int 0)]) C 5 dX9_mayAt_3 rfl (Nat.le_of_ble_eq_true rfl) rfl rfl ?_
  have L5 : ∀ (f5 : Nat) (k : Nat) (a x : Int32) (sl5 : gS) (Ex : x = nI k) (hk : k ≤ n) (ha : a = x_mayL TX P c of k) (il5 : cI TX nT n l w P sl5) (fl5 : Fr mS s sl5), n < k + f5 → GW SC E (gFin SC E (gQi SC (fun r s' => Fr mS s s' ∧ r = x_mays TX P c of))) 5 [some (.ref (e_ad E w)), some (.int c), some (.int of), some (.int a), some (.int x)] [] sl5 := by
    intro f5
    induction f5 with
    | zero =>
      intro k a x sl5 Ex hk ha il5 fl5 hf5
      exact absurd hf5 (by omega)
    | succ f5 ih5 =>
      intro k a x sl5 Ex hk ha il5 fl5 hf5
      refine G_iload C 7 dX9_mayAt_5 rfl rfl ?_
      refine G_aload_n (i := 0) C 8 dX9_mayAt_7 rfl rfl rfl ?_
      refine X9_57g C hw 11 dX9_mayAt_8 rfl (fun x8 ex8 => ?_)
      have Sx8 : x8 = nI n := ex8.trans (cI_n il5)
      refine G_icmp_ge C 56 14 dX9_mayAt_11 rfl rfl (fun c11 => ?_) (fun c11 => ?_)
      ·
        have n11 : ¬ k < n := fun h => c11 ((g_ltN (a := k) (b := n) (hx := Ex) (hy := Sx8) (by omega) (by omega)).mpr h)
        refine G_iload_n (i := 3) C 57 dX9_mayAt_56 rfl rfl rfl ?_
        exact G_iret C dX9_mayAt_57 (⟨fl5, by rw [ha, show k = n by omega, mayL_mays hof (x_nOf hI.2.2.1.1 hn6)]⟩)
      ·
        have n11 : k < n := (g_ltN (a := k) (b := n) (hx := Ex) (hy := Sx8) (by omega) (by omega)).mp c11
        refine G_aload_n (i := 0) C 15 dX9_mayAt_14 rfl rfl rfl ?_
        refine X9_19g C hw 18 dX9_mayAt_15 rfl ?_
        refine G_iload C 20 dX9_mayAt_18 rfl rfl ?_
        refine G_iald (n := 6) C 21 (lW hw (by decide)) (eW2 _ _ _ hw) (k) Ex (by omega) (by decide) dX9_mayAt_20 rfl (fun x20 ex20 => ?_)
        have Sx20 : x20 = P 2 (k) := ex20.trans (congrFun (congrFun il5.2.1 2) _)
        refine G_iload_n (i := 1) C 22 dX9_mayAt_21 rfl rfl rfl ?_
        refine G_icmp_ne C 50 25 dX9_mayAt_22 rfl rfl (fun c22 => ?_) (fun c22 => ?_)
        ·
          refine G_iinc (w := 1) C 53 dX9_mayAt_50 rfl rfl rfl rfl (fun x50 ex50 => ?_)
          have Nx50 : x50 = nI (k + 1) := g_addN ex50 Ex rfl
          show GW SC E _ 53 [some (.ref (e_ad E w)), some (.int c), some (.int of), some (.int a), some (.int x50)] [] sl5
          refine G_goto C 5 dX9_mayAt_53 rfl ?_
          exact ih5 (k + 1) a x50 sl5 (g_cn (a := (k + 1)) Nx50 (by first | rfl | omega | (simp only [List.length_cons, List.length_drop]; done) | (simp only [List.length_cons, List.length_drop]; omega))) (by omega) (by rw [x_mayL, if_neg (by rw [← Sx20]; exact c22), ha]) il5 fl5 (by omega)
        ·
          refine G_iload_n (i := 3) C 26 dX9_mayAt_25 rfl rfl rfl ?_
          refine G_if_eq C 50 29 dX9_mayAt_26 rfl rfl (fun c26 => ?_) (fun c26 => ?_)
          ·
            refine G_iinc (w := 1) C 53 dX9_mayAt_50 rfl rfl rfl rfl (fun x50 ex50 => ?_)
            have Nx50 : x50 = nI (k + 1) := g_addN ex50 Ex rfl
            show GW SC E _ 53 [some (.ref (e_ad E w)), some (.int c), some (.int of), some (.int a), some (.int x50)] [] sl5
            refine G_goto C 5 dX9_mayAt_53 rfl ?_
            exact ih5 (k + 1) a x50 sl5 (g_cn (a := (k + 1)) Nx50 (by first | rfl | omega | (simp only [List.length_cons, List.length_drop]; done) | (simp only [List.length_cons, List.length_drop]; omega))) (by omega) (by rw [x_mayL, if_pos (Sx20.symm.trans c22), ← ha, if_pos c26]) il5 fl5 (by omega)
          ·
            refine G_aload_n (i := 0) C 30 dX9_mayAt_29 rfl rfl rfl ?_
            refine G_iload C 32 dX9_mayAt_30 rfl rfl ?_
            refine G_calli 35 (G_runV C Kc_X9_listens KV_X9_108 (by omega) (lW0 hw) (eW _ _ _ hw) rfl (c_X9_listens 0 TX nT n l w P sl5 il5 x k Ex (by omega)) rfl rfl rfl (Nat.le_of_ble_eq_true rfl) rfl dX9_mayAt_32) rfl (fun x32 s32 h32 => ?_)
            obtain ⟨es32, h32⟩ := h32
            have es32 := es32.symm
            subst es32
            refine G_if_eq C 50 38 dX9_mayAt_35 rfl rfl (fun c35 => ?_) (fun c35 => ?_)
            ·
              refine G_iinc (w := 1) C 53 dX9_mayAt_50 rfl rfl rfl rfl (fun x50 ex50 => ?_)
              have Nx50 : x50 = nI (k + 1) := g_addN ex50 Ex rfl
              show GW SC E _ 53 [some (.ref (e_ad E w)), some (.int c), some (.int of), some (.int a), some (.int x50)] [] sl5
              refine G_goto C 5 dX9_mayAt_53 rfl ?_
              exact ih5 (k + 1) a x50 sl5 (g_cn (a := (k + 1)) Nx50 (by first | rfl | omega | (simp only [List.length_cons, List.length_drop]; done) | (simp only [List.length_cons, List.length_drop]; omega))) (by omega) (by rw [x_mayL, if_pos (Sx20.symm.trans c22), ← ha, if_neg c26, if_pos (h32.symm.trans c35)]) il5 fl5 (by omega)
            ·
              refine G_iload_n (i := 3) C 39 dX9_mayAt_38 rfl rfl rfl ?_
              refine G_aload_n (i := 0) C 40 dX9_mayAt_39 rfl rfl rfl ?_
              refine G_iload C 42 dX9_mayAt_40 rfl rfl ?_
              refine G_iload_n (i := 3) C 43 dX9_mayAt_42 rfl rfl rfl ?_
              refine G_calli 46 (G_runV C Kc_X9_wishedBy KV_X9_112 (by omega) (lW0 hw) (eW _ _ _ hw) rfl (c_X9_wishedBy 0 TX nT n l w P sl5 il5 x k Ex (by omega) a) rfl rfl rfl (Nat.le_of_ble_eq_true rfl) rfl dX9_mayAt_43) rfl (fun x43 s43 h43 => ?_)
              have i_1 : cI TX nT n l w P s43 := cI_fr il5 (h43.1)
              have f_1 : Fr mS s s43 := Fr.tr fl5 (h43.1)
              refine G_iconst (v := (-1)) C 47 dX9_mayAt_46 rfl rfl ?_
              refine G_ixor C 48 dX9_mayAt_47 rfl (fun x47 ex47 => ?_)
              refine G_iand C 49 dX9_mayAt_48 rfl (fun x48 ex48 => ?_)
              refine G_istore_n (i := 3) (L' := [some (.ref (e_ad E w)), some (.int c), some (.int of), some (.int x48), some (.int x)]) C 50 dX9_mayAt_49 rfl rfl (Nat.le_of_ble_eq_true rfl) rfl rfl ?_
              refine G_iinc (w := 1) C 53 dX9_mayAt_50 rfl rfl rfl rfl (fun x50 ex50 => ?_)
              have Nx50 : x50 = nI (k + 1) := g_addN ex50 Ex rfl
              show GW SC E _ 53 [some (.ref (e_ad E w)), some (.int c), some (.int of), some (.int x48), some (.int x50)] [] s43
              refine G_goto C 5 dX9_mayAt_53 rfl ?_
              exact ih5 (k + 1) x48 x50 s43 (g_cn (a := (k + 1)) Nx50 (by first | rfl | omega | (simp only [List.length_cons, List.length_drop]; done) | (simp only [List.length_cons, List.length_drop]; omega))) (by omega) (by rw [x_mayL, if_pos (Sx20.symm.trans c22), ← ha, if_neg c26, if_neg (by rw [← h32]; exact c35), ex48, ex47, h43.2]) i_1 f_1 (by omega)
  exact L5 (n + 1) 0 of 0 s (g_cn (a := 0) rfl (by first | rfl | omega)) (by omega) (rfl) i f (by omega)
theorem dX9_knownBeside_0 : decode cX9_knownBeside 0 = .ok (.iconst 0, 1) := by decide +kernel
theorem dX9_knownBeside_1 : decode cX9_knownBeside 1 = .ok (.istore_n 2, 1) := by decide +kernel
theorem dX9_knownBeside_2 : decode cX9_knownBeside 2 = .ok (.iconst 0, 1) := by decide +kernel
theorem dX9_knownBeside_3 : decode cX9_knownBeside 3 = .ok (.istore_n 3, 1) := by decide +kernel
theorem dX9_knownBeside_4 : decode cX9_knownBeside 4 = .ok (.iload_n 3, 1) := by decide +kernel
theorem dX9_knownBeside_5 : decode cX9_knownBeside 5 = .ok (.aload_n 0, 1) := by decide +kernel
theorem dX9_knownBeside_6 : decode cX9_knownBeside 6 = .ok (.getfield 57, 3) := by decide +kernel
theorem dX9_knownBeside_9 : decode cX9_knownBeside 9 = .ok (.if_icmp .ge 38, 3) := by decide +kernel
theorem dX9_knownBeside_12 : decode cX9_knownBeside 12 = .ok (.iload_n 3, 1) := by decide +kernel
theorem dX9_knownBeside_13 : decode cX9_knownBeside 13 = .ok (.iload_n 1, 1) := by decide +kernel
theorem dX9_knownBeside_14 : decode cX9_knownBeside 14 = .ok (.if_icmp .eq 27, 3) := by decide +kernel
theorem dX9_knownBeside_17 : decode cX9_knownBeside 17 = .ok (.aload_n 0, 1) := by decide +kernel
theorem dX9_knownBeside_18 : decode cX9_knownBeside 18 = .ok (.getfield 19, 3) := by decide +kernel
theorem dX9_knownBeside_21 : decode cX9_knownBeside 21 = .ok (.iload_n 3, 1) := by decide +kernel
theorem dX9_knownBeside_22 : decode cX9_knownBeside 22 = .ok (.iaload, 1) := by decide +kernel
theorem dX9_knownBeside_23 : decode cX9_knownBeside 23 = .ok (.aload_n 0, 1) := by decide +kernel
theorem dX9_knownBeside_24 : decode cX9_knownBeside 24 = .ok (.getfield 19, 3) := by decide +kernel
theorem dX9_knownBeside_27 : decode cX9_knownBeside 27 = .ok (.iload_n 1, 1) := by decide +kernel
theorem dX9_knownBeside_28 : decode cX9_knownBeside 28 = .ok (.iaload, 1) := by decide +kernel
theorem dX9_knownBeside_29 : decode cX9_knownBeside 29 = .ok (.if_icmp .ne 12, 3) := by decide +kernel
theorem dX9_knownBeside_32 : decode cX9_knownBeside 32 = .ok (.iload_n 2, 1) := by decide +kernel
theorem dX9_knownBeside_33 : decode cX9_knownBeside 33 = .ok (.aload_n 0, 1) := by decide +kernel
theorem dX9_knownBeside_34 : decode cX9_knownBeside 34 = .ok (.getfield 25, 3) := by decide +kernel
theorem dX9_knownBeside_37 : decode cX9_knownBeside 37 = .ok (.iload_n 3, 1) := by decide +kernel
theorem dX9_knownBeside_38 : decode cX9_knownBeside 38 = .ok (.iaload, 1) := by decide +kernel
theorem dX9_knownBeside_39 : decode cX9_knownBeside 39 = .ok (.ior, 1) := by decide +kernel
theorem dX9_knownBeside_40 : decode cX9_knownBeside 40 = .ok (.istore_n 2, 1) := by decide +kernel
theorem dX9_knownBeside_41 : decode cX9_knownBeside 41 = .ok (.iinc 3 1, 3) := by decide +kernel
theorem dX9_knownBeside_44 : decode cX9_knownBeside 44 = .ok (.goto (-40), 3) := by decide +kernel
theorem dX9_knownBeside_47 : decode cX9_knownBeside 47 = .ok (.iload_n 2, 1) := by decide +kernel
theorem dX9_knownBeside_48 : decode cX9_knownBeside 48 = .ok (.ireturn, 1) := by decide +kernel
set_option maxHeartbeats 4000000 in
set_option maxRecDepth 100000 in
theorem c_X9_knownBeside (d : Nat) (TX : gTX) (nT n l w : Nat) (P s : gS) (hI : cI TX nT n l w P s) (x : Int32) (p : Nat) (hx : x = nI p) (hp : p < n) : gMt SC yX9_knownBeside cX9_knownBeside 4 (some .int) (d + 1) (fun ad => [.ref (ad w), .int x]) s (gQi SC (fun r s' => s' = s ∧ r = x_bes P p n)) := by
  have hw := hI.1
  have hn6 : n ≤ 6 := hI.2.2.1.2.1
  have hl6 : l < 6 := cI_l6 hI
  refine gMt_of SC_ok (by decide +kernel) (fun ad => [some (.ref (ad w)), some (.int x), none, none]) (fun _ => rfl) (fun _ => rfl) (fun _ => Nat.le_of_ble_eq_true rfl) (fun E C0 => ?_)
  have C : gCx SC E RX9 cX9_knownBeside 4 (some .int) (d + 1) := C0
  have i : cI TX nT n l w P s := hI
  have f : Fr mS s s := Fr.rf
  refine G_iconst (v := 0) C 1 dX9_knownBeside_0 rfl rfl ?_
  refine G_istore_n (i := 2) (L' := [some (.ref (e_ad E w)), some (.int x), some (.int 0), none]) C 2 dX9_knownBeside_1 rfl rfl (Nat.le_of_ble_eq_true rfl) rfl rfl ?_
  refine G_iconst (v := 0) C 3 dX9_knownBeside_2 rfl rfl ?_
  refine G_istore_n (i := 3) (L' := [some (.ref (e_ad E w)), some (.int x), some (.int 0), some (.int 0)]) C 4 dX9_knownBeside_3 rfl rfl (Nat.le_of_ble_eq_true rfl) rfl rfl ?_
  have L4 : ∀ (f4 : Nat) (k : Nat) (a y : Int32) (Ey : y = nI k) (hk : k ≤ n) (ha : a = x_bes P p k), n < k + f4 → GW SC E (gFin SC E (gQi SC (fun r s' => s' = s ∧ r = x_bes P p n))) 4 [some (.ref (e_ad E w)), some (.int x), some (.int a), some (.int y)] [] s := by
    intro f4
    induction f4 with
    | zero =>
      intro k a y Ey hk ha hf4
      exact absurd hf4 (by omega)
    | succ f4 ih4 =>
      intro k a y Ey hk ha hf4
      refine G_iload_n (i := 3) C 5 dX9_knownBeside_4 rfl rfl rfl ?_
      refine G_aload_n (i := 0) C 6 dX9_knownBeside_5 rfl rfl rfl ?_
      refine X9_57g C hw 9 dX9_knownBeside_6 rfl (fun x6 ex6 => ?_)
      have Sx6 : x6 = nI n := ex6.trans (cI_n i)
      refine G_icmp_ge C 47 12 dX9_knownBeside_9 rfl rfl (fun c9 => ?_) (fun c9 => ?_)
      ·
        have n9 : ¬ k < n := fun h => c9 ((g_ltN (a := k) (b := n) (hx := Ey) (hy := Sx6) (by omega) (by omega)).mpr h)
        refine G_iload_n (i := 2) C 48 dX9_knownBeside_47 rfl rfl rfl ?_
        exact G_iret C dX9_knownBeside_48 (⟨rfl, by rw [ha, show k = n by omega]⟩)
      ·
        have n9 : k < n := (g_ltN (a := k) (b := n) (hx := Ey) (hy := Sx6) (by omega) (by omega)).mp c9
        refine G_iload_n (i := 3) C 13 dX9_knownBeside_12 rfl rfl rfl ?_
        refine G_iload_n (i := 1) C 14 dX9_knownBeside_13 rfl rfl rfl ?_
        refine G_icmp_eq C 41 17 dX9_knownBeside_14 rfl rfl (fun c14 => ?_) (fun c14 => ?_)
        ·
          have n14 : k = p := (g_eqN (a := k) (b := p) (hx := Ey) (hy := hx) (by omega) (by omega)).mp c14
          refine G_iinc (w := 1) C 44 dX9_knownBeside_41 rfl rfl rfl rfl (fun x41 ex41 => ?_)
          have Nx41 : x41 = nI (k + 1) := g_addN ex41 Ey rfl
          show GW SC E _ 44 [some (.ref (e_ad E w)), some (.int x), some (.int a), some (.int x41)] [] s
          refine G_goto C 4 dX9_knownBeside_44 rfl ?_
          exact ih4 (k + 1) a x41  (g_cn (a := (k + 1)) Nx41 (by first | rfl | omega | (simp only [List.length_cons, List.length_drop]; done) | (simp only [List.length_cons, List.length_drop]; omega))) (by omega) (by rw [x_bes, if_pos n14, ha]) (by omega)
        ·
          have n14 : ¬ k = p := fun h => c14 ((g_eqN (a := k) (b := p) (hx := Ey) (hy := hx) (by omega) (by omega)).mpr h)
          refine G_aload_n (i := 0) C 18 dX9_knownBeside_17 rfl rfl rfl ?_
          refine X9_19g C hw 21 dX9_knownBeside_18 rfl ?_
          refine G_iload_n (i := 3) C 22 dX9_knownBeside_21 rfl rfl rfl ?_
          refine G_iald (n := 6) C 23 (lW hw (by decide)) (eW2 _ _ _ hw) (k) Ey (by omega) (by decide) dX9_knownBeside_22 rfl (fun x22 ex22 => ?_)
          have Sx22 : x22 = P 2 (k) := ex22.trans (congrFun (congrFun i.2.1 2) _)
          refine G_aload_n (i := 0) C 24 dX9_knownBeside_23 rfl rfl rfl ?_
          refine X9_19g C hw 27 dX9_knownBeside_24 rfl ?_
          refine G_iload_n (i := 1) C 28 dX9_knownBeside_27 rfl rfl rfl ?_
          refine G_iald (n := 6) C 29 (lW hw (by decide)) (eW2 _ _ _ hw) (p) hx (by omega) (by decide) dX9_knownBeside_28 rfl (fun x28 ex28 => ?_)
          have Sx28 : x28 = P 2 (p) := ex28.trans (congrFun (congrFun i.2.1 2) _)
          refine G_icmp_ne C 41 32 dX9_knownBeside_29 rfl rfl (fun c29 => ?_) (fun c29 => ?_)
          ·
            refine G_iinc (w := 1) C 44 dX9_knownBeside_41 rfl rfl rfl rfl (fun x41 ex41 => ?_)
            have Nx41 : x41 = nI (k + 1) := g_addN ex41 Ey rfl
            show GW SC E _ 44 [some (.ref (e_ad E w)), some (.int x), some (.int a), some (.int x41)] [] s
            refine G_goto C 4 dX9_knownBeside_44 rfl ?_
            exact ih4 (k + 1) a x41  (g_cn (a := (k + 1)) Nx41 (by first | rfl | omega | (simp only [List.length_cons, List.length_drop]; done) | (simp only [List.length_cons, List.length_drop]; omega))) (by omega) (by rw [x_bes, if_neg n14, if_neg (by rw [← Sx22, ← Sx28]; exact c29), ha]) (by omega)
          ·
            refine G_iload_n (i := 2) C 33 dX9_knownBeside_32 rfl rfl rfl ?_
            refine G_aload_n (i := 0) C 34 dX9_knownBeside_33 rfl rfl rfl ?_
            refine X9_25g C hw 37 dX9_knownBeside_34 rfl ?_
            refine G_iload_n (i := 3) C 38 dX9_knownBeside_37 rfl rfl rfl ?_
            refine G_iald (n := 6) C 39 (lW hw (by decide)) (eW4 _ _ _ hw) (k) Ey (by omega) (by decide) dX9_knownBeside_38 rfl (fun x38 ex38 => ?_)
            have Sx38 : x38 = P 4 (k) := ex38.trans (congrFun (congrFun i.2.1 4) _)
            obtain ⟨mx38, hmx38, emx38⟩ := (cI_p i (p := k) (by omega)).2.2
            refine G_ior C 40 dX9_knownBeside_39 rfl (fun x39 ex39 => ?_)
            refine G_istore_n (i := 2) (L' := [some (.ref (e_ad E w)), some (.int x), some (.int x39), some (.int y)]) C 41 dX9_knownBeside_40 rfl rfl (Nat.le_of_ble_eq_true rfl) rfl rfl ?_
            refine G_iinc (w := 1) C 44 dX9_knownBeside_41 rfl rfl rfl rfl (fun x41 ex41 => ?_)
            have Nx41 : x41 = nI (k + 1) := g_addN ex41 Ey rfl
            show GW SC E _ 44 [some (.ref (e_ad E w)), some (.int x), some (.int x39), some (.int x41)] [] s
            refine G_goto C 4 dX9_knownBeside_44 rfl ?_
            exact ih4 (k + 1) x39 x41  (g_cn (a := (k + 1)) Nx41 (by first | rfl | omega | (simp only [List.length_cons, List.length_drop]; done) | (simp only [List.length_cons, List.length_drop]; omega))) (by omega) (by rw [x_bes, if_neg n14, if_pos (by rw [← Sx22, ← Sx28]; exact c29), ex39, Sx38, ha]) (by omega)
  exact L4 (n + 1) 0 0 0  (g_cn (a := 0) rfl (by first | rfl | omega)) (by omega) (rfl) (by omega)
theorem dX9_knownTogether_0 : decode cX9_knownTogether 0 = .ok (.iconst 0, 1) := by decide +kernel
theorem dX9_knownTogether_1 : decode cX9_knownTogether 1 = .ok (.istore_n 1, 1) := by decide +kernel
theorem dX9_knownTogether_2 : decode cX9_knownTogether 2 = .ok (.iconst 0, 1) := by decide +kernel
theorem dX9_knownTogether_3 : decode cX9_knownTogether 3 = .ok (.istore_n 2, 1) := by decide +kernel
theorem dX9_knownTogether_4 : decode cX9_knownTogether 4 = .ok (.iload_n 2, 1) := by decide +kernel
theorem dX9_knownTogether_5 : decode cX9_knownTogether 5 = .ok (.aload_n 0, 1) := by decide +kernel
theorem dX9_knownTogether_6 : decode cX9_knownTogether 6 = .ok (.getfield 57, 3) := by decide +kernel
theorem dX9_knownTogether_9 : decode cX9_knownTogether 9 = .ok (.if_icmp .ge 21, 3) := by decide +kernel
theorem dX9_knownTogether_12 : decode cX9_knownTogether 12 = .ok (.iload_n 1, 1) := by decide +kernel
theorem dX9_knownTogether_13 : decode cX9_knownTogether 13 = .ok (.aload_n 0, 1) := by decide +kernel
theorem dX9_knownTogether_14 : decode cX9_knownTogether 14 = .ok (.getfield 25, 3) := by decide +kernel
theorem dX9_knownTogether_17 : decode cX9_knownTogether 17 = .ok (.iload_n 2, 1) := by decide +kernel
theorem dX9_knownTogether_18 : decode cX9_knownTogether 18 = .ok (.iaload, 1) := by decide +kernel
theorem dX9_knownTogether_19 : decode cX9_knownTogether 19 = .ok (.invokestatic 76, 3) := by decide +kernel
theorem dX9_knownTogether_22 : decode cX9_knownTogether 22 = .ok (.iadd, 1) := by decide +kernel
theorem dX9_knownTogether_23 : decode cX9_knownTogether 23 = .ok (.istore_n 1, 1) := by decide +kernel
theorem dX9_knownTogether_24 : decode cX9_knownTogether 24 = .ok (.iinc 2 1, 3) := by decide +kernel
theorem dX9_knownTogether_27 : decode cX9_knownTogether 27 = .ok (.goto (-23), 3) := by decide +kernel
theorem dX9_knownTogether_30 : decode cX9_knownTogether 30 = .ok (.iload_n 1, 1) := by decide +kernel
theorem dX9_knownTogether_31 : decode cX9_knownTogether 31 = .ok (.ireturn, 1) := by decide +kernel
set_option maxHeartbeats 4000000 in
set_option maxRecDepth 100000 in
theorem c_X9_knownTogether (d : Nat) (TX : gTX) (nT n l w : Nat) (P s : gS) (hI : cI TX nT n l w P s) : gMt SC yX9_knownTogether cX9_knownTogether 3 (some .int) (d + 2) (fun ad => [.ref (ad w)]) s (gQi SC (fun r s' => s' = s ∧ r = x_kt P n)) := by
  have hw := hI.1
  have hn6 : n ≤ 6 := hI.2.2.1.2.1
  have hl6 : l < 6 := cI_l6 hI
  refine gMt_of SC_ok (by decide +kernel) (fun ad => [some (.ref (ad w)), none, none]) (fun _ => rfl) (fun _ => rfl) (fun _ => Nat.le_of_ble_eq_true rfl) (fun E C0 => ?_)
  have C : gCx SC E RX9 cX9_knownTogether 3 (some .int) (d + 2) := C0
  have i : cI TX nT n l w P s := hI
  have f : Fr mS s s := Fr.rf
  refine G_iconst (v := 0) C 1 dX9_knownTogether_0 rfl rfl ?_
  refine G_istore_n (i := 1) (L' := [some (.ref (e_ad E w)), some (.int 0), none]) C 2 dX9_knownTogether_1 rfl rfl (Nat.le_of_ble_eq_true rfl) rfl rfl ?_
  refine G_iconst (v := 0) C 3 dX9_knownTogether_2 rfl rfl ?_
  refine G_istore_n (i := 2) (L' := [some (.ref (e_ad E w)), some (.int 0), some (.int 0)]) C 4 dX9_knownTogether_3 rfl rfl (Nat.le_of_ble_eq_true rfl) rfl rfl ?_
  have L4 : ∀ (f4 : Nat) (k : Nat) (a y : Int32) (Ey : y = nI k) (hk : k ≤ n) (ha : a = x_kt P k), n < k + f4 → GW SC E (gFin SC E (gQi SC (fun r s' => s' = s ∧ r = x_kt P n))) 4 [some (.ref (e_ad E w)), some (.int a), some (.int y)] [] s := by
    intro f4
    induction f4 with
    | zero =>
      intro k a y Ey hk ha hf4
      exact absurd hf4 (by omega)
    | succ f4 ih4 =>
      intro k a y Ey hk ha hf4
      refine G_iload_n (i := 2) C 5 dX9_knownTogether_4 rfl rfl rfl ?_
      refine G_aload_n (i := 0) C 6 dX9_knownTogether_5 rfl rfl rfl ?_
      refine X9_57g C hw 9 dX9_knownTogether_6 rfl (fun x6 ex6 => ?_)
      have Sx6 : x6 = nI n := ex6.trans (cI_n i)
      refine G_icmp_ge C 30 12 dX9_knownTogether_9 rfl rfl (fun c9 => ?_) (fun c9 => ?_)
      ·
        have n9 : ¬ k < n := fun h => c9 ((g_ltN (a := k) (b := n) (hx := Ey) (hy := Sx6) (by omega) (by omega)).mpr h)
        refine G_iload_n (i := 1) C 31 dX9_knownTogether_30 rfl rfl rfl ?_
        exact G_iret C dX9_knownTogether_31 (⟨rfl, by rw [ha, show k = n by omega]⟩)
      ·
        have n9 : k < n := (g_ltN (a := k) (b := n) (hx := Ey) (hy := Sx6) (by omega) (by omega)).mp c9
        refine G_iload_n (i := 1) C 13 dX9_knownTogether_12 rfl rfl rfl ?_
        refine G_aload_n (i := 0) C 14 dX9_knownTogether_13 rfl rfl rfl ?_
        refine X9_25g C hw 17 dX9_knownTogether_14 rfl ?_
        refine G_iload_n (i := 2) C 18 dX9_knownTogether_17 rfl rfl rfl ?_
        refine G_iald (n := 6) C 19 (lW hw (by decide)) (eW4 _ _ _ hw) (k) Ey (by omega) (by decide) dX9_knownTogether_18 rfl (fun x18 ex18 => ?_)
        have Sx18 : x18 = P 4 (k) := ex18.trans (congrFun (congrFun i.2.1 4) _)
        obtain ⟨mx18, hmx18, emx18⟩ := (cI_p i (p := k) (by omega)).2.2
        refine G_calli 22 (G_runS C Kc_J6_bitCount_0f7a4 KS_X9_76 (by omega) (c_J6_bitCount_0f7a4 0 mx18 (by omega) x18 (Sx18.trans emx18) s) rfl rfl (Nat.le_of_ble_eq_true rfl) rfl dX9_knownTogether_19) rfl (fun x19 s19 h19 => ?_)
        obtain ⟨es19, h19⟩ := h19
        have es19 := es19.symm
        subst es19
        refine G_iadd C 23 dX9_knownTogether_22 rfl (fun x22 ex22 => ?_)
        refine G_istore_n (i := 1) (L' := [some (.ref (e_ad E w)), some (.int x22), some (.int y)]) C 24 dX9_knownTogether_23 rfl rfl (Nat.le_of_ble_eq_true rfl) rfl rfl ?_
        refine G_iinc (w := 1) C 27 dX9_knownTogether_24 rfl rfl rfl rfl (fun x24 ex24 => ?_)
        have Nx24 : x24 = nI (k + 1) := g_addN ex24 Ey rfl
        show GW SC E _ 27 [some (.ref (e_ad E w)), some (.int x22), some (.int x24)] [] s
        refine G_goto C 4 dX9_knownTogether_27 rfl ?_
        exact ih4 (k + 1) x22 x24  (g_cn (a := (k + 1)) Nx24 (by first | rfl | omega | (simp only [List.length_cons, List.length_drop]; done) | (simp only [List.length_cons, List.length_drop]; omega))) (by omega) (by rw [x_kt, ex22, h19, Sx18, ha]) (by omega)
  exact L4 (n + 1) 0 0 0  (g_cn (a := 0) rfl (by first | rfl | omega)) (by omega) (rfl) (by omega)
theorem dX9_cry_0 : decode cX9_cry 0 = .ok (.aload_n 0, 1) := by decide +kernel
theorem dX9_cry_1 : decode cX9_cry 1 = .ok (.dup, 1) := by decide +kernel
theorem dX9_cry_2 : decode cX9_cry 2 = .ok (.getfield 9, 3) := by decide +kernel
theorem dX9_cry_5 : decode cX9_cry 5 = .ok (.iconst 1, 1) := by decide +kernel
theorem dX9_cry_6 : decode cX9_cry 6 = .ok (.iload_n 1, 1) := by decide +kernel
theorem dX9_cry_7 : decode cX9_cry 7 = .ok (.ishl, 1) := by decide +kernel
theorem dX9_cry_8 : decode cX9_cry 8 = .ok (.iconst (-1), 1) := by decide +kernel
theorem dX9_cry_9 : decode cX9_cry 9 = .ok (.ixor, 1) := by decide +kernel
theorem dX9_cry_10 : decode cX9_cry 10 = .ok (.iand, 1) := by decide +kernel
theorem dX9_cry_11 : decode cX9_cry 11 = .ok (.putfield 9, 3) := by decide +kernel
theorem dX9_cry_14 : decode cX9_cry 14 = .ok (.iconst 0, 1) := by decide +kernel
theorem dX9_cry_15 : decode cX9_cry 15 = .ok (.istore_n 2, 1) := by decide +kernel
theorem dX9_cry_16 : decode cX9_cry 16 = .ok (.iload_n 2, 1) := by decide +kernel
theorem dX9_cry_17 : decode cX9_cry 17 = .ok (.aload_n 0, 1) := by decide +kernel
theorem dX9_cry_18 : decode cX9_cry 18 = .ok (.getfield 57, 3) := by decide +kernel
theorem dX9_cry_21 : decode cX9_cry 21 = .ok (.if_icmp .ge 42, 3) := by decide +kernel
theorem dX9_cry_24 : decode cX9_cry 24 = .ok (.aload_n 0, 1) := by decide +kernel
theorem dX9_cry_25 : decode cX9_cry 25 = .ok (.getfield 19, 3) := by decide +kernel
theorem dX9_cry_28 : decode cX9_cry 28 = .ok (.iload_n 2, 1) := by decide +kernel
theorem dX9_cry_29 : decode cX9_cry 29 = .ok (.iaload, 1) := by decide +kernel
theorem dX9_cry_30 : decode cX9_cry 30 = .ok (.aload_n 0, 1) := by decide +kernel
theorem dX9_cry_31 : decode cX9_cry 31 = .ok (.getfield 51, 3) := by decide +kernel
theorem dX9_cry_34 : decode cX9_cry 34 = .ok (.if_icmp .ne 23, 3) := by decide +kernel
theorem dX9_cry_37 : decode cX9_cry 37 = .ok (.aload_n 0, 1) := by decide +kernel
theorem dX9_cry_38 : decode cX9_cry 38 = .ok (.iload_n 2, 1) := by decide +kernel
theorem dX9_cry_39 : decode cX9_cry 39 = .ok (.invokevirtual 108, 3) := by decide +kernel
theorem dX9_cry_42 : decode cX9_cry 42 = .ok (.ifCond .eq 15, 3) := by decide +kernel
theorem dX9_cry_45 : decode cX9_cry 45 = .ok (.aload_n 0, 1) := by decide +kernel
theorem dX9_cry_46 : decode cX9_cry 46 = .ok (.getfield 25, 3) := by decide +kernel
theorem dX9_cry_49 : decode cX9_cry 49 = .ok (.iload_n 2, 1) := by decide +kernel
theorem dX9_cry_50 : decode cX9_cry 50 = .ok (.dup2, 1) := by decide +kernel
theorem dX9_cry_51 : decode cX9_cry 51 = .ok (.iaload, 1) := by decide +kernel
theorem dX9_cry_52 : decode cX9_cry 52 = .ok (.iconst 1, 1) := by decide +kernel
theorem dX9_cry_53 : decode cX9_cry 53 = .ok (.iload_n 1, 1) := by decide +kernel
theorem dX9_cry_54 : decode cX9_cry 54 = .ok (.ishl, 1) := by decide +kernel
theorem dX9_cry_55 : decode cX9_cry 55 = .ok (.ior, 1) := by decide +kernel
theorem dX9_cry_56 : decode cX9_cry 56 = .ok (.iastore, 1) := by decide +kernel
theorem dX9_cry_57 : decode cX9_cry 57 = .ok (.iinc 2 1, 3) := by decide +kernel
theorem dX9_cry_60 : decode cX9_cry 60 = .ok (.goto (-44), 3) := by decide +kernel
theorem dX9_cry_63 : decode cX9_cry 63 = .ok (.return_, 1) := by decide +kernel
set_option maxHeartbeats 4000000 in
set_option maxRecDepth 100000 in
theorem c_X9_cry (d : Nat) (TX : gTX) (nT n l w : Nat) (P s : gS) (hI : cI TX nT n l w P s) (x : Int32) (t : Nat) (hx : x = nI t) (ht : t < 10) : gMt SC yX9_cry cX9_cry 3 none (d + 7) (fun ad => [.ref (ad w), .int x]) s (gQv SC (fun s' => Fr (mW w) s s' ∧ cI TX nT n l w (x_cryN P ((1 : Int32) <<< (nI t &&& 31)) n) s')) := by
  have hw := hI.1
  have hn6 : n ≤ 6 := hI.2.2.1.2.1
  have hl6 : l < 6 := cI_l6 hI
  refine gMt_of SC_ok (by decide +kernel) (fun ad => [some (.ref (ad w)), some (.int x), none]) (fun _ => rfl) (fun _ => rfl) (fun _ => Nat.le_of_ble_eq_true rfl) (fun E C0 => ?_)
  have C : gCx SC E RX9 cX9_cry 3 none (d + 7) := C0
  have i : cI TX nT n l w P s := hI
  have f : Fr (mW w) s s := Fr.rf
  refine G_aload_n (i := 0) C 1 dX9_cry_0 rfl rfl rfl ?_
  refine G_dup C 2 dX9_cry_1 rfl rfl ?_
  refine X9_9g C hw 5 dX9_cry_2 rfl (fun x2 ex2 => ?_)
  have Sx2 : x2 = P 0 2 := ex2.trans (cI_v i 0 2)
  refine G_iconst (v := 1) C 6 dX9_cry_5 rfl rfl ?_
  refine G_iload_n (i := 1) C 7 dX9_cry_6 rfl rfl rfl ?_
  refine G_ishl C 8 dX9_cry_7 rfl (fun x7 ex7 => ?_)
  refine G_iconst (v := (-1)) C 9 dX9_cry_8 rfl rfl ?_
  refine G_ixor C 10 dX9_cry_9 rfl (fun x9 ex9 => ?_)
  refine G_iand C 11 dX9_cry_10 rfl (fun x10 ex10 => ?_)
  refine X9_9p C hw 14 dX9_cry_11 rfl (fun s11 es11 => ?_)
  have i_1 : cI TX nT n l w (x_cryN P ((1 : Int32) <<< (nI t &&& 31)) 0) s11 := by have z := cI_news i es11 (by rw [ex10]; rw [Sx2]; exact bt_and1024 _ hI.2.2.1.2.2.2.2.2.2.2.1); rw [ex10, Sx2, ex9, ex7, hx] at z; exact z
  have f_1 : Fr (mW w) s s11 := Fr.tr f (Fr.upW (i := 0) es11 (by decide))
  refine G_iconst (v := 0) C 15 dX9_cry_14 rfl rfl ?_
  refine G_istore_n (i := 2) (L' := [some (.ref (e_ad E w)), some (.int x), some (.int 0)]) C 16 dX9_cry_15 rfl rfl (Nat.le_of_ble_eq_true rfl) rfl rfl ?_
  have L16 : ∀ (f16 : Nat) (k : Nat) (y : Int32) (sl16 : gS) (Ey : y = nI k) (hk : k ≤ n) (il16 : cI TX nT n l w (x_cryN P ((1 : Int32) <<< (nI t &&& 31)) k) sl16) (fl16 : Fr (mW w) s sl16), n < k + f16 → GW SC E (gFin SC E (gQv SC (fun s' => Fr (mW w) s s' ∧ cI TX nT n l w (x_cryN P ((1 : Int32) <<< (nI t &&& 31)) n) s'))) 16 [some (.ref (e_ad E w)), some (.int x), some (.int y)] [] sl16 := by
    intro f16
    induction f16 with
    | zero =>
      intro k y sl16 Ey hk il16 fl16 hf16
      exact absurd hf16 (by omega)
    | succ f16 ih16 =>
      intro k y sl16 Ey hk il16 fl16 hf16
      refine G_iload_n (i := 2) C 17 dX9_cry_16 rfl rfl rfl ?_
      refine G_aload_n (i := 0) C 18 dX9_cry_17 rfl rfl rfl ?_
      refine X9_57g C hw 21 dX9_cry_18 rfl (fun x18 ex18 => ?_)
      have Sx18 : x18 = nI n := ex18.trans (cI_n il16)
      refine G_icmp_ge C 63 24 dX9_cry_21 rfl rfl (fun c21 => ?_) (fun c21 => ?_)
      ·
        have n21 : ¬ k < n := fun h => c21 ((g_ltN (a := k) (b := n) (hx := Ey) (hy := Sx18) (by omega) (by omega)).mpr h)
        exact G_vret C dX9_cry_63 (⟨fl16, by have e : k = n := (by omega); subst e; exact il16⟩)
      ·
        have n21 : k < n := (g_ltN (a := k) (b := n) (hx := Ey) (hy := Sx18) (by omega) (by omega)).mp c21
        refine G_aload_n (i := 0) C 25 dX9_cry_24 rfl rfl rfl ?_
        refine X9_19g C hw 28 dX9_cry_25 rfl ?_
        refine G_iload_n (i := 2) C 29 dX9_cry_28 rfl rfl rfl ?_
        refine G_iald (n := 6) C 30 (lW hw (by decide)) (eW2 _ _ _ hw) (k) Ey (by omega) (by decide) dX9_cry_29 rfl (fun x29 ex29 => ?_)
        have Sx29 : x29 = (x_cryN P ((1 : Int32) <<< (nI t &&& 31)) k) 2 (k) := ex29.trans (congrFun (congrFun il16.2.1 2) _)
        refine G_aload_n (i := 0) C 31 dX9_cry_30 rfl rfl rfl ?_
        refine X9_51g C hw 34 dX9_cry_31 rfl (fun x31 ex31 => ?_)
        have Sx31 : x31 = (x_cryN P ((1 : Int32) <<< (nI t &&& 31)) k) 0 1 := ex31.trans (cI_v il16 0 1)
        refine G_icmp_ne C 57 37 dX9_cry_34 rfl rfl (fun c34 => ?_) (fun c34 => ?_)
        ·
          refine G_iinc (w := 1) C 60 dX9_cry_57 rfl rfl rfl rfl (fun x57 ex57 => ?_)
          have Nx57 : x57 = nI (k + 1) := g_addN ex57 Ey rfl
          show GW SC E _ 60 [some (.ref (e_ad E w)), some (.int x), some (.int x57)] [] sl16
          refine G_goto C 16 dX9_cry_60 rfl ?_
          exact ih16 (k + 1) x57 sl16 (g_cn (a := (k + 1)) Nx57 (by first | rfl | omega | (simp only [List.length_cons, List.length_drop]; done) | (simp only [List.length_cons, List.length_drop]; omega))) (by omega) (by rw [x_cryN, if_neg (by rw [x_cryN_a P _ (by decide) (by decide)] at Sx29; rw [x_cryN_0 P _ (by decide)] at Sx31; rw [← Sx29, ← Sx31]; exact c34)]; exact il16) fl16 (by omega)
        ·
          refine G_aload_n (i := 0) C 38 dX9_cry_37 rfl rfl rfl ?_
          refine G_iload_n (i := 2) C 39 dX9_cry_38 rfl rfl rfl ?_
          refine G_calli 42 (G_runV C Kc_X9_listens KV_X9_108 (by omega) (lW0 hw) (eW _ _ _ hw) rfl (c_X9_listens 0 TX nT n l w (x_cryN P ((1 : Int32) <<< (nI t &&& 31)) k) sl16 il16 y k Ey (by omega)) rfl rfl rfl (Nat.le_of_ble_eq_true rfl) rfl dX9_cry_39) rfl (fun x39 s39 h39 => ?_)
          obtain ⟨es39, h39⟩ := h39
          have es39 := es39.symm
          subst es39
          refine G_if_eq C 57 45 dX9_cry_42 rfl rfl (fun c42 => ?_) (fun c42 => ?_)
          ·
            refine G_iinc (w := 1) C 60 dX9_cry_57 rfl rfl rfl rfl (fun x57 ex57 => ?_)
            have Nx57 : x57 = nI (k + 1) := g_addN ex57 Ey rfl
            show GW SC E _ 60 [some (.ref (e_ad E w)), some (.int x), some (.int x57)] [] sl16
            refine G_goto C 16 dX9_cry_60 rfl ?_
            exact ih16 (k + 1) x57 sl16 (g_cn (a := (k + 1)) Nx57 (by first | rfl | omega | (simp only [List.length_cons, List.length_drop]; done) | (simp only [List.length_cons, List.length_drop]; omega))) (by omega) (by rw [x_cryN, if_pos (by rw [x_cryN_a P _ (by decide) (by decide)] at Sx29; rw [x_cryN_0 P _ (by decide)] at Sx31; rw [← Sx29, ← Sx31]; exact c34), if_pos (by rw [← x_cryN_lis P ((1 : Int32) <<< (nI t &&& 31)) k, ← h39]; exact c42)]; exact il16) fl16 (by omega)
          ·
            refine G_aload_n (i := 0) C 46 dX9_cry_45 rfl rfl rfl ?_
            refine X9_25g C hw 49 dX9_cry_46 rfl ?_
            refine G_iload_n (i := 2) C 50 dX9_cry_49 rfl rfl rfl ?_
            refine G_dup2 C 51 dX9_cry_50 rfl rfl rfl ?_
            refine G_iald (n := 6) C 52 (lW hw (by decide)) (eW4 _ _ _ hw) (k) Ey (by omega) (by decide) dX9_cry_51 rfl (fun x51 ex51 => ?_)
            have Sx51 : x51 = (x_cryN P ((1 : Int32) <<< (nI t &&& 31)) k) 4 (k) := ex51.trans (congrFun (congrFun il16.2.1 4) _)
            obtain ⟨mx51, hmx51, emx51⟩ := (cI_p il16 (p := k) (by omega)).2.2
            refine G_iconst (v := 1) C 53 dX9_cry_52 rfl rfl ?_
            refine G_iload_n (i := 1) C 54 dX9_cry_53 rfl rfl rfl ?_
            refine G_ishl C 55 dX9_cry_54 rfl (fun x54 ex54 => ?_)
            refine G_ior C 56 dX9_cry_55 rfl (fun x55 ex55 => ?_)
            refine G_iast (n := 6) C 57 (lW hw (by decide)) (fun σ => eW4 _ _ σ hw) (k) Ey (by omega) (by decide) (Nat.le_of_eq (nWi hw (by decide) (by decide)).symm) dX9_cry_56 rfl (fun s56 es56 => ?_)
            have i_2 : cI TX nT n l w (g_up (x_cryN P ((1 : Int32) <<< (nI t &&& 31)) k) 4 k ((x_cryN P ((1 : Int32) <<< (nI t &&& 31)) k) 4 k ||| ((1 : Int32) <<< (nI t &&& 31)))) s56 := by have z := cI_up4 il16 es56 (by rw [ex55, ex54, hx, Sx51]; exact bt_or1024 ⟨mx51, hmx51, emx51⟩ (bt_1024p ht)); rw [ex55, ex54, hx, Sx51] at z; exact z
            have f_2 : Fr (mW w) s s56 := Fr.tr fl16 (Fr.upW es56 (by decide))
            refine G_iinc (w := 1) C 60 dX9_cry_57 rfl rfl rfl rfl (fun x57 ex57 => ?_)
            have Nx57 : x57 = nI (k + 1) := g_addN ex57 Ey rfl
            show GW SC E _ 60 [some (.ref (e_ad E w)), some (.int x), some (.int x57)] [] s56
            refine G_goto C 16 dX9_cry_60 rfl ?_
            exact ih16 (k + 1) x57 s56 (g_cn (a := (k + 1)) Nx57 (by first | rfl | omega | (simp only [List.length_cons, List.length_drop]; done) | (simp only [List.length_cons, List.length_drop]; omega))) (by omega) (by rw [x_cryN, if_pos (by rw [x_cryN_a P _ (by decide) (by decide)] at Sx29; rw [x_cryN_0 P _ (by decide)] at Sx31; rw [← Sx29, ← Sx31]; exact c34), if_neg (by rw [← x_cryN_lis P ((1 : Int32) <<< (nI t &&& 31)) k, ← h39]; exact c42)]; exact i_2) f_2 (by omega)
  exact L16 (n + 1) 0 0 s11 (g_cn (a := 0) rfl (by first | rfl | omega)) (by omega) (i_1) f_1 (by omega)
theorem dX9_pass_0 : decode cX9_pass 0 = .ok (.aload_n 0, 1) := by decide +kernel
theorem dX9_pass_1 : decode cX9_pass 1 = .ok (.aload_n 0, 1) := by decide +kernel
theorem dX9_pass_2 : decode cX9_pass 2 = .ok (.getfield 51, 3) := by decide +kernel
theorem dX9_pass_5 : decode cX9_pass 5 = .ok (.aload_n 0, 1) := by decide +kernel
theorem dX9_pass_6 : decode cX9_pass 6 = .ok (.getfield 9, 3) := by decide +kernel
theorem dX9_pass_9 : decode cX9_pass 9 = .ok (.invokevirtual 115, 3) := by decide +kernel
theorem dX9_pass_12 : decode cX9_pass 12 = .ok (.invokestatic 118, 3) := by decide +kernel
theorem dX9_pass_15 : decode cX9_pass 15 = .ok (.istore_n 1, 1) := by decide +kernel
theorem dX9_pass_16 : decode cX9_pass 16 = .ok (.iload_n 1, 1) := by decide +kernel
theorem dX9_pass_17 : decode cX9_pass 17 = .ok (.iconst (-1), 1) := by decide +kernel
theorem dX9_pass_18 : decode cX9_pass 18 = .ok (.if_icmp .eq 8, 3) := by decide +kernel
theorem dX9_pass_21 : decode cX9_pass 21 = .ok (.aload_n 0, 1) := by decide +kernel
theorem dX9_pass_22 : decode cX9_pass 22 = .ok (.iload_n 1, 1) := by decide +kernel
theorem dX9_pass_23 : decode cX9_pass 23 = .ok (.invokevirtual 121, 3) := by decide +kernel
theorem dX9_pass_26 : decode cX9_pass 26 = .ok (.iconst 0, 1) := by decide +kernel
theorem dX9_pass_27 : decode cX9_pass 27 = .ok (.istore_n 2, 1) := by decide +kernel
theorem dX9_pass_28 : decode cX9_pass 28 = .ok (.iload_n 2, 1) := by decide +kernel
theorem dX9_pass_29 : decode cX9_pass 29 = .ok (.aload_n 0, 1) := by decide +kernel
theorem dX9_pass_30 : decode cX9_pass 30 = .ok (.getfield 57, 3) := by decide +kernel
theorem dX9_pass_33 : decode cX9_pass 33 = .ok (.if_icmp .ge 28, 3) := by decide +kernel
theorem dX9_pass_36 : decode cX9_pass 36 = .ok (.aload_n 0, 1) := by decide +kernel
theorem dX9_pass_37 : decode cX9_pass 37 = .ok (.getfield 25, 3) := by decide +kernel
theorem dX9_pass_40 : decode cX9_pass 40 = .ok (.iload_n 2, 1) := by decide +kernel
theorem dX9_pass_41 : decode cX9_pass 41 = .ok (.dup2, 1) := by decide +kernel
theorem dX9_pass_42 : decode cX9_pass 42 = .ok (.iaload, 1) := by decide +kernel
theorem dX9_pass_43 : decode cX9_pass 43 = .ok (.aload_n 0, 1) := by decide +kernel
theorem dX9_pass_44 : decode cX9_pass 44 = .ok (.iload_n 2, 1) := by decide +kernel
theorem dX9_pass_45 : decode cX9_pass 45 = .ok (.aload_n 0, 1) := by decide +kernel
theorem dX9_pass_46 : decode cX9_pass 46 = .ok (.iload_n 2, 1) := by decide +kernel
theorem dX9_pass_47 : decode cX9_pass 47 = .ok (.invokevirtual 125, 3) := by decide +kernel
theorem dX9_pass_50 : decode cX9_pass 50 = .ok (.invokevirtual 112, 3) := by decide +kernel
theorem dX9_pass_53 : decode cX9_pass 53 = .ok (.ior, 1) := by decide +kernel
theorem dX9_pass_54 : decode cX9_pass 54 = .ok (.iastore, 1) := by decide +kernel
theorem dX9_pass_55 : decode cX9_pass 55 = .ok (.iinc 2 1, 3) := by decide +kernel
theorem dX9_pass_58 : decode cX9_pass 58 = .ok (.goto (-30), 3) := by decide +kernel
theorem dX9_pass_61 : decode cX9_pass 61 = .ok (.iconst 0, 1) := by decide +kernel
theorem dX9_pass_62 : decode cX9_pass 62 = .ok (.istore_n 2, 1) := by decide +kernel
theorem dX9_pass_63 : decode cX9_pass 63 = .ok (.iload_n 2, 1) := by decide +kernel
theorem dX9_pass_64 : decode cX9_pass 64 = .ok (.aload_n 0, 1) := by decide +kernel
theorem dX9_pass_65 : decode cX9_pass 65 = .ok (.getfield 57, 3) := by decide +kernel
theorem dX9_pass_68 : decode cX9_pass 68 = .ok (.if_icmp .ge 32, 3) := by decide +kernel
theorem dX9_pass_71 : decode cX9_pass 71 = .ok (.aload_n 0, 1) := by decide +kernel
theorem dX9_pass_72 : decode cX9_pass 72 = .ok (.getfield 19, 3) := by decide +kernel
theorem dX9_pass_75 : decode cX9_pass 75 = .ok (.iload_n 2, 1) := by decide +kernel
theorem dX9_pass_76 : decode cX9_pass 76 = .ok (.aload_n 0, 1) := by decide +kernel
theorem dX9_pass_77 : decode cX9_pass 77 = .ok (.getfield 19, 3) := by decide +kernel
theorem dX9_pass_80 : decode cX9_pass 80 = .ok (.iload_n 2, 1) := by decide +kernel
theorem dX9_pass_81 : decode cX9_pass 81 = .ok (.iaload, 1) := by decide +kernel
theorem dX9_pass_82 : decode cX9_pass 82 = .ok (.aload_n 0, 1) := by decide +kernel
theorem dX9_pass_83 : decode cX9_pass 83 = .ok (.iload_n 2, 1) := by decide +kernel
theorem dX9_pass_84 : decode cX9_pass 84 = .ok (.invokevirtual 128, 3) := by decide +kernel
theorem dX9_pass_87 : decode cX9_pass 87 = .ok (.iadd, 1) := by decide +kernel
theorem dX9_pass_88 : decode cX9_pass 88 = .ok (.bipush 9, 2) := by decide +kernel
theorem dX9_pass_90 : decode cX9_pass 90 = .ok (.invokestatic 131, 3) := by decide +kernel
theorem dX9_pass_93 : decode cX9_pass 93 = .ok (.iastore, 1) := by decide +kernel
theorem dX9_pass_94 : decode cX9_pass 94 = .ok (.iinc 2 1, 3) := by decide +kernel
theorem dX9_pass_97 : decode cX9_pass 97 = .ok (.goto (-34), 3) := by decide +kernel
theorem dX9_pass_100 : decode cX9_pass 100 = .ok (.aload_n 0, 1) := by decide +kernel
theorem dX9_pass_101 : decode cX9_pass 101 = .ok (.aload_n 0, 1) := by decide +kernel
theorem dX9_pass_102 : decode cX9_pass 102 = .ok (.getfield 51, 3) := by decide +kernel
theorem dX9_pass_105 : decode cX9_pass 105 = .ok (.iconst 1, 1) := by decide +kernel
theorem dX9_pass_106 : decode cX9_pass 106 = .ok (.iadd, 1) := by decide +kernel
theorem dX9_pass_107 : decode cX9_pass 107 = .ok (.bipush 9, 2) := by decide +kernel
theorem dX9_pass_109 : decode cX9_pass 109 = .ok (.irem, 1) := by decide +kernel
theorem dX9_pass_110 : decode cX9_pass 110 = .ok (.putfield 51, 3) := by decide +kernel
theorem dX9_pass_113 : decode cX9_pass 113 = .ok (.aload_n 0, 1) := by decide +kernel
theorem dX9_pass_114 : decode cX9_pass 114 = .ok (.dup, 1) := by decide +kernel
theorem dX9_pass_115 : decode cX9_pass 115 = .ok (.getfield 48, 3) := by decide +kernel
theorem dX9_pass_118 : decode cX9_pass 118 = .ok (.iconst 1, 1) := by decide +kernel
theorem dX9_pass_119 : decode cX9_pass 119 = .ok (.iadd, 1) := by decide +kernel
theorem dX9_pass_120 : decode cX9_pass 120 = .ok (.putfield 48, 3) := by decide +kernel
theorem dX9_pass_123 : decode cX9_pass 123 = .ok (.iload_n 1, 1) := by decide +kernel
theorem dX9_pass_124 : decode cX9_pass 124 = .ok (.ireturn, 1) := by decide +kernel
set_option maxHeartbeats 4000000 in
set_option maxRecDepth 100000 in
theorem c_X9_pass (d : Nat) (TX : gTX) (nT n l w : Nat) (P s : gS) (hI : cI TX nT n l w P s) : gMt SC yX9_pass cX9_pass 3 (some .int) (d + 8) (fun ad => [.ref (ad w)]) s (gQi SC (fun r s' => Fr (mW w) s s' ∧ cI TX nT n l w (x_pass TX P) s' ∧ r = x_crd TX P)) := by
  have hw := hI.1
  have hn6 : n ≤ 6 := hI.2.2.1.2.1
  have hl6 : l < 6 := cI_l6 hI
  refine gMt_of SC_ok (by decide +kernel) (fun ad => [some (.ref (ad w)), none, none]) (fun _ => rfl) (fun _ => rfl) (fun _ => Nat.le_of_ble_eq_true rfl) (fun E C0 => ?_)
  have C : gCx SC E RX9 cX9_pass 3 (some .int) (d + 8) := C0
  have i : cI TX nT n l w P s := hI
  have f : Fr (mW w) s s := Fr.rf
  refine G_aload_n (i := 0) C 1 dX9_pass_0 rfl rfl rfl ?_
  refine G_aload_n (i := 0) C 2 dX9_pass_1 rfl rfl rfl ?_
  refine X9_51g C hw 5 dX9_pass_2 rfl (fun x2 ex2 => ?_)
  have Sx2 : x2 = P 0 1 := ex2.trans (cI_v i 0 1)
  refine G_aload_n (i := 0) C 6 dX9_pass_5 rfl rfl rfl ?_
  refine X9_9g C hw 9 dX9_pass_6 rfl (fun x6 ex6 => ?_)
  have Sx6 : x6 = P 0 2 := ex6.trans (cI_v i 0 2)
  refine G_calli 12 (G_runV C Kc_X9_mayAt KV_X9_115 (by omega) (lW0 hw) (eW _ _ _ hw) rfl (c_X9_mayAt 0 TX nT n l w P s i x2 x6 (by rw [Sx6]; exact hI.2.2.1.2.2.2.2.2.2.2.1)) rfl rfl rfl (Nat.le_of_ble_eq_true rfl) rfl dX9_pass_9) rfl (fun x9 s9 h9 => ?_)
  have i_1 : cI TX nT n l w P s9 := cI_fr i (h9.1)
  have f_1 : Fr (mW w) s s9 := Fr.tr f (Fr.S (h9.1))
  refine G_calli 15 (G_runN C Kc_X10_firstOf KN_X9_118 (by omega) (c_X10_firstOf 0 x9 s9) rfl rfl (Nat.le_of_ble_eq_true rfl) rfl dX9_pass_12) rfl (fun x12 s12 h12 => ?_)
  obtain ⟨es12, h12⟩ := h12
  have es12 := es12.symm
  subst es12
  have T12 : x12 = x_crd TX P := by rw [h12, h9.2, Sx2, Sx6]; rfl
  refine G_istore_n (i := 1) (L' := [some (.ref (e_ad E w)), some (.int x12), none]) C 16 dX9_pass_15 rfl rfl (Nat.le_of_ble_eq_true rfl) rfl rfl ?_
  refine G_iload_n (i := 1) C 17 dX9_pass_16 rfl rfl rfl ?_
  refine G_iconst (v := (-1)) C 18 dX9_pass_17 rfl rfl ?_
  refine G_icmp_eq C 26 21 dX9_pass_18 rfl rfl (fun c18 => ?_) (fun c18 => ?_)
  ·
    have i2 : cI TX nT n l w (x_pcry TX P) s9 := by unfold x_pcry; rw [if_pos (by rw [← T12]; exact c18)]; exact i_1
    refine G_iconst (v := 0) C 27 dX9_pass_26 rfl rfl ?_
    refine G_istore_n (i := 2) (L' := [some (.ref (e_ad E w)), some (.int x12), some (.int 0)]) C 28 dX9_pass_27 rfl rfl (Nat.le_of_ble_eq_true rfl) rfl rfl ?_
    have L28 : ∀ (f28 : Nat) (k : Nat) (y : Int32) (sl28 : gS) (Ey : y = nI k) (hk : k ≤ n) (il28 : cI TX nT n l w (x_gabN TX (x_pcry TX P) n k) sl28) (fl28 : Fr (mW w) s sl28), n < k + f28 → GW SC E (gFin SC E (gQi SC (fun r s' => Fr (mW w) s s' ∧ cI TX nT n l w (x_pass TX P) s' ∧ r = x_crd TX P))) 28 [some (.ref (e_ad E w)), some (.int x12), some (.int y)] [] sl28 := by
      intro f28
      induction f28 with
      | zero =>
        intro k y sl28 Ey hk il28 fl28 hf28
        exact absurd hf28 (by omega)
      | succ f28 ih28 =>
        intro k y sl28 Ey hk il28 fl28 hf28
        refine G_iload_n (i := 2) C 29 dX9_pass_28 rfl rfl rfl ?_
        refine G_aload_n (i := 0) C 30 dX9_pass_29 rfl rfl rfl ?_
        refine X9_57g C hw 33 dX9_pass_30 rfl (fun x30 ex30 => ?_)
        have Sx30 : x30 = nI n := ex30.trans (cI_n il28)
        refine G_icmp_ge C 61 36 dX9_pass_33 rfl rfl (fun c33 => ?_) (fun c33 => ?_)
        ·
          have n33 : ¬ k < n := fun h => c33 ((g_ltN (a := k) (b := n) (hx := Ey) (hy := Sx30) (by omega) (by omega)).mpr h)
          have i4 : cI TX nT n l w (x_pgab TX P) sl28 := by unfold x_pgab; rw [x_nOf hI.2.2.1.1 hn6]; have e : k = n := (by omega); subst e; exact il28
          refine G_iconst (v := 0) C 62 dX9_pass_61 rfl rfl ?_
          refine G_istore_n (i := 2) (L' := [some (.ref (e_ad E w)), some (.int x12), some (.int 0)]) C 63 dX9_pass_62 rfl rfl (Nat.le_of_ble_eq_true rfl) rfl rfl ?_
          have L63 : ∀ (f63 : Nat) (k : Nat) (y : Int32) (sl63 : gS) (Ey : y = nI k) (hk : k ≤ n) (il63 : cI TX nT n l w (x_movN TX (x_pgab TX P) k) sl63) (fl63 : Fr (mW w) s sl63), n < k + f63 → GW SC E (gFin SC E (gQi SC (fun r s' => Fr (mW w) s s' ∧ cI TX nT n l w (x_pass TX P) s' ∧ r = x_crd TX P))) 63 [some (.ref (e_ad E w)), some (.int x12), some (.int y)] [] sl63 := by
            intro f63
            induction f63 with
            | zero =>
              intro k y sl63 Ey hk il63 fl63 hf63
              exact absurd hf63 (by omega)
            | succ f63 ih63 =>
              intro k y sl63 Ey hk il63 fl63 hf63
              refine G_iload_n (i := 2) C 64 dX9_pass_63 rfl rfl rfl ?_
              refine G_aload_n (i := 0) C 65 dX9_pass_64 rfl rfl rfl ?_
              refine X9_57g C hw 68 dX9_pass_65 rfl (fun x65 ex65 => ?_)
              have Sx65 : x65 = nI n := ex65.trans (cI_n il63)
              refine G_icmp_ge C 100 71 dX9_pass_68 rfl rfl (fun c68 => ?_) (fun c68 => ?_)
              ·
                have n68 : ¬ k < n := fun h => c68 ((g_ltN (a := k) (b := n) (hx := Ey) (hy := Sx65) (by omega) (by omega)).mpr h)
                have i3 : cI TX nT n l w (x_pmov TX P) sl63 := by unfold x_pmov; rw [x_nOf hI.2.2.1.1 hn6]; have e : k = n := (by omega); subst e; exact il63
                refine G_aload_n (i := 0) C 101 dX9_pass_100 rfl rfl rfl ?_
                refine G_aload_n (i := 0) C 102 dX9_pass_101 rfl rfl rfl ?_
                refine X9_51g C hw 105 dX9_pass_102 rfl (fun x102 ex102 => ?_)
                have Sx102 : x102 = (x_pmov TX P) 0 1 := ex102.trans (cI_v i3 0 1)
                refine G_iconst (v := 1) C 106 dX9_pass_105 rfl rfl ?_
                refine G_iadd C 107 dX9_pass_106 rfl (fun x106 ex106 => ?_)
                refine G_bipush (v := 9) C 109 dX9_pass_107 rfl rfl ?_
                refine G_irem C 110 dX9_pass_109 rfl (by decide) (fun x109 ex109 => ?_)
                refine X9_51p C hw 113 dX9_pass_110 rfl (fun s110 es110 => ?_)
                have i_2 : cI TX nT n l w (x_pcor (x_pmov TX P)) s110 := by have z := cI_corner i3 es110 (by obtain ⟨q, hq, eq⟩ := i3.2.2.1.2.2.2.2.2.2.2.2; rw [ex109, ex106, Sx102, eq, nI_1, show (9 : Int32) = nI 9 from rfl, pk_rem (by omega) (by omega) (by omega)]; exact ⟨_, Nat.mod_lt _ (by decide), rfl⟩); rw [ex109, ex106, Sx102] at z; exact z
                have f_2 : Fr (mW w) s s110 := Fr.tr fl63 (Fr.upW (i := 0) es110 (by decide))
                refine G_aload_n (i := 0) C 114 dX9_pass_113 rfl rfl rfl ?_
                refine G_dup C 115 dX9_pass_114 rfl rfl ?_
                refine X9_48g C hw 118 dX9_pass_115 rfl (fun x115 ex115 => ?_)
                have Sx115 : x115 = (x_pcor (x_pmov TX P)) 0 0 := ex115.trans (cI_v i_2 0 0)
                refine G_iconst (v := 1) C 119 dX9_pass_118 rfl rfl ?_
                refine G_iadd C 120 dX9_pass_119 rfl (fun x119 ex119 => ?_)
                refine X9_48p C hw 123 dX9_pass_120 rfl (fun s120 es120 => ?_)
                have i_3 : cI TX nT n l w (x_pass TX P) s120 := by have z := cI_hour i_2 es120; rw [ex119, Sx115] at z; exact z
                have f_3 : Fr (mW w) s s120 := Fr.tr f_2 (Fr.upW (i := 0) es120 (by decide))
                refine G_iload_n (i := 1) C 124 dX9_pass_123 rfl rfl rfl ?_
                exact G_iret C dX9_pass_124 (⟨f_3, i_3, T12⟩)
              ·
                have n68 : k < n := (g_ltN (a := k) (b := n) (hx := Ey) (hy := Sx65) (by omega) (by omega)).mp c68
                refine G_aload_n (i := 0) C 72 dX9_pass_71 rfl rfl rfl ?_
                refine X9_19g C hw 75 dX9_pass_72 rfl ?_
                refine G_iload_n (i := 2) C 76 dX9_pass_75 rfl rfl rfl ?_
                refine G_aload_n (i := 0) C 77 dX9_pass_76 rfl rfl rfl ?_
                refine X9_19g C hw 80 dX9_pass_77 rfl ?_
                refine G_iload_n (i := 2) C 81 dX9_pass_80 rfl rfl rfl ?_
                refine G_iald (n := 6) C 82 (lW hw (by decide)) (eW2 _ _ _ hw) (k) Ey (by omega) (by decide) dX9_pass_81 rfl (fun x81 ex81 => ?_)
                have Sx81 : x81 = (x_movN TX (x_pgab TX P) k) 2 (k) := ex81.trans (congrFun (congrFun il63.2.1 2) _)
                refine G_aload_n (i := 0) C 83 dX9_pass_82 rfl rfl rfl ?_
                refine G_iload_n (i := 2) C 84 dX9_pass_83 rfl rfl rfl ?_
                refine G_calli 87 (G_runV C Kc_X9_goes KV_X9_128 (by omega) (lW0 hw) (eW _ _ _ hw) rfl (c_X9_goes 0 TX nT n l w (x_movN TX (x_pgab TX P) k) sl63 il63 y k Ey (by omega)) rfl rfl rfl (Nat.le_of_ble_eq_true rfl) rfl dX9_pass_84) rfl (fun x84 s84 h84 => ?_)
                have i_2 : cI TX nT n l w (x_movN TX (x_pgab TX P) k) s84 := cI_fr il63 (h84.1)
                have f_2 : Fr (mW w) s s84 := Fr.tr fl63 (Fr.S (h84.1))
                refine G_iadd C 88 dX9_pass_87 rfl (fun x87 ex87 => ?_)
                refine G_bipush (v := 9) C 90 dX9_pass_88 rfl rfl ?_
                refine G_calli 93 (G_runS C Kc_J9_floorMod_7cf53 KS_X9_131 (by omega) (c_J9_floorMod_7cf53 0 x87 s84) rfl rfl (Nat.le_of_ble_eq_true rfl) rfl dX9_pass_90) rfl (fun x90 s90 h90 => ?_)
                obtain ⟨es90, h90⟩ := h90
                have es90 := es90.symm
                subst es90
                refine G_iast (n := 6) C 94 (lW hw (by decide)) (fun σ => eW2 _ _ σ hw) (k) Ey (by omega) (by decide) (Nat.le_of_eq (nWi hw (by decide) (by decide)).symm) dX9_pass_93 rfl (fun s93 es93 => ?_)
                have i_3 : cI TX nT n l w (x_movN TX (x_pgab TX P) (k + 1)) s93 := by have z := cI_up2 i_2 es93; rw [h90, ex87, Sx81, h84.2] at z; exact z
                have f_3 : Fr (mW w) s s93 := Fr.tr f_2 (Fr.upW es93 (by decide))
                refine G_iinc (w := 1) C 97 dX9_pass_94 rfl rfl rfl rfl (fun x94 ex94 => ?_)
                have Nx94 : x94 = nI (k + 1) := g_addN ex94 Ey rfl
                show GW SC E _ 97 [some (.ref (e_ad E w)), some (.int x12), some (.int x94)] [] s93
                refine G_goto C 63 dX9_pass_97 rfl ?_
                exact ih63 (k + 1) x94 s93 (g_cn (a := (k + 1)) Nx94 (by first | rfl | omega | (simp only [List.length_cons, List.length_drop]; done) | (simp only [List.length_cons, List.length_drop]; omega))) (by omega) (i_3) f_3 (by omega)
          exact L63 (n + 1) 0 0 sl28 (g_cn (a := 0) rfl (by first | rfl | omega)) (by omega) (i4) fl28 (by omega)
        ·
          have n33 : k < n := (g_ltN (a := k) (b := n) (hx := Ey) (hy := Sx30) (by omega) (by omega)).mp c33
          refine G_aload_n (i := 0) C 37 dX9_pass_36 rfl rfl rfl ?_
          refine X9_25g C hw 40 dX9_pass_37 rfl ?_
          refine G_iload_n (i := 2) C 41 dX9_pass_40 rfl rfl rfl ?_
          refine G_dup2 C 42 dX9_pass_41 rfl rfl rfl ?_
          refine G_iald (n := 6) C 43 (lW hw (by decide)) (eW4 _ _ _ hw) (k) Ey (by omega) (by decide) dX9_pass_42 rfl (fun x42 ex42 => ?_)
          have Sx42 : x42 = (x_gabN TX (x_pcry TX P) n k) 4 (k) := ex42.trans (congrFun (congrFun il28.2.1 4) _)
          obtain ⟨mx42, hmx42, emx42⟩ := (cI_p il28 (p := k) (by omega)).2.2
          refine G_aload_n (i := 0) C 44 dX9_pass_43 rfl rfl rfl ?_
          refine G_iload_n (i := 2) C 45 dX9_pass_44 rfl rfl rfl ?_
          refine G_aload_n (i := 0) C 46 dX9_pass_45 rfl rfl rfl ?_
          refine G_iload_n (i := 2) C 47 dX9_pass_46 rfl rfl rfl ?_
          refine G_calli 50 (G_runV C Kc_X9_knownBeside KV_X9_125 (by omega) (lW0 hw) (eW _ _ _ hw) rfl (c_X9_knownBeside 0 TX nT n l w (x_gabN TX (x_pcry TX P) n k) sl28 il28 y k Ey (by omega)) rfl rfl rfl (Nat.le_of_ble_eq_true rfl) rfl dX9_pass_47) rfl (fun x47 s47 h47 => ?_)
          obtain ⟨es47, h47⟩ := h47
          have es47 := es47.symm
          subst es47
          refine G_calli 53 (G_runV C Kc_X9_wishedBy KV_X9_112 (by omega) (lW0 hw) (eW _ _ _ hw) rfl (c_X9_wishedBy 0 TX nT n l w (x_gabN TX (x_pcry TX P) n k) sl28 il28 y k Ey (by omega) x47) rfl rfl rfl (Nat.le_of_ble_eq_true rfl) rfl dX9_pass_50) rfl (fun x50 s50 h50 => ?_)
          have i_2 : cI TX nT n l w (x_gabN TX (x_pcry TX P) n k) s50 := cI_fr il28 (h50.1)
          have f_2 : Fr (mW w) s s50 := Fr.tr fl28 (Fr.S (h50.1))
          refine G_ior C 54 dX9_pass_53 rfl (fun x53 ex53 => ?_)
          refine G_iast (n := 6) C 55 (lW hw (by decide)) (fun σ => eW4 _ _ σ hw) (k) Ey (by omega) (by decide) (Nat.le_of_eq (nWi hw (by decide) (by decide)).symm) dX9_pass_54 rfl (fun s54 es54 => ?_)
          have i_3 : cI TX nT n l w (x_gabN TX (x_pcry TX P) n (k + 1)) s54 := by have z := cI_up4 i_2 es54 (by rw [ex53, Sx42, h50.2]; exact bt_or1024 ⟨mx42, hmx42, emx42⟩ (x_wset1024 _ _ _ _ 10 (by omega))); rw [ex53, Sx42, h50.2, h47] at z; exact z
          have f_3 : Fr (mW w) s s54 := Fr.tr f_2 (Fr.upW es54 (by decide))
          refine G_iinc (w := 1) C 58 dX9_pass_55 rfl rfl rfl rfl (fun x55 ex55 => ?_)
          have Nx55 : x55 = nI (k + 1) := g_addN ex55 Ey rfl
          show GW SC E _ 58 [some (.ref (e_ad E w)), some (.int x12), some (.int x55)] [] s54
          refine G_goto C 28 dX9_pass_58 rfl ?_
          exact ih28 (k + 1) x55 s54 (g_cn (a := (k + 1)) Nx55 (by first | rfl | omega | (simp only [List.length_cons, List.length_drop]; done) | (simp only [List.length_cons, List.length_drop]; omega))) (by omega) (i_3) f_3 (by omega)
    exact L28 (n + 1) 0 0 s9 (g_cn (a := 0) rfl (by first | rfl | omega)) (by omega) (i2) f_1 (by omega)
  ·
    obtain ⟨t, ht, et⟩ := (x_crd_r TX P).resolve_left (by rw [← T12]; exact c18)
    refine G_aload_n (i := 0) C 22 dX9_pass_21 rfl rfl rfl ?_
    refine G_iload_n (i := 1) C 23 dX9_pass_22 rfl rfl rfl ?_
    refine G_callv 26 (G_runV C Kc_X9_cry KV_X9_121 (by omega) (lW0 hw) (eW _ _ _ hw) rfl (c_X9_cry 0 TX nT n l w P s9 i_1 x12 t (T12.trans et) (by omega)) rfl rfl rfl (Nat.le_of_ble_eq_true rfl) rfl dX9_pass_23) rfl (fun s23 h23 => ?_)
    have i_2 : cI TX nT n l w (x_cryN P ((1 : Int32) <<< (nI t &&& 31)) n) s23 := h23.2
    have f_2 : Fr (mW w) s s23 := Fr.tr f_1 h23.1
    have i2 : cI TX nT n l w (x_pcry TX P) s23 := by unfold x_pcry; rw [if_neg (by rw [← T12]; exact c18), et, x_nOf hI.2.2.1.1 hn6]; exact h23.2
    refine G_iconst (v := 0) C 27 dX9_pass_26 rfl rfl ?_
    refine G_istore_n (i := 2) (L' := [some (.ref (e_ad E w)), some (.int x12), some (.int 0)]) C 28 dX9_pass_27 rfl rfl (Nat.le_of_ble_eq_true rfl) rfl rfl ?_
    have L28 : ∀ (f28 : Nat) (k : Nat) (y : Int32) (sl28 : gS) (Ey : y = nI k) (hk : k ≤ n) (il28 : cI TX nT n l w (x_gabN TX (x_pcry TX P) n k) sl28) (fl28 : Fr (mW w) s sl28), n < k + f28 → GW SC E (gFin SC E (gQi SC (fun r s' => Fr (mW w) s s' ∧ cI TX nT n l w (x_pass TX P) s' ∧ r = x_crd TX P))) 28 [some (.ref (e_ad E w)), some (.int x12), some (.int y)] [] sl28 := by
      intro f28
      induction f28 with
      | zero =>
        intro k y sl28 Ey hk il28 fl28 hf28
        exact absurd hf28 (by omega)
      | succ f28 ih28 =>
        intro k y sl28 Ey hk il28 fl28 hf28
        refine G_iload_n (i := 2) C 29 dX9_pass_28 rfl rfl rfl ?_
        refine G_aload_n (i := 0) C 30 dX9_pass_29 rfl rfl rfl ?_
        refine X9_57g C hw 33 dX9_pass_30 rfl (fun x30 ex30 => ?_)
        have Sx30 : x30 = nI n := ex30.trans (cI_n il28)
        refine G_icmp_ge C 61 36 dX9_pass_33 rfl rfl (fun c33 => ?_) (fun c33 => ?_)
        ·
          have n33 : ¬ k < n := fun h => c33 ((g_ltN (a := k) (b := n) (hx := Ey) (hy := Sx30) (by omega) (by omega)).mpr h)
          have i4 : cI TX nT n l w (x_pgab TX P) sl28 := by unfold x_pgab; rw [x_nOf hI.2.2.1.1 hn6]; have e : k = n := (by omega); subst e; exact il28
          refine G_iconst (v := 0) C 62 dX9_pass_61 rfl rfl ?_
          refine G_istore_n (i := 2) (L' := [some (.ref (e_ad E w)), some (.int x12), some (.int 0)]) C 63 dX9_pass_62 rfl rfl (Nat.le_of_ble_eq_true rfl) rfl rfl ?_
          have L63 : ∀ (f63 : Nat) (k : Nat) (y : Int32) (sl63 : gS) (Ey : y = nI k) (hk : k ≤ n) (il63 : cI TX nT n l w (x_movN TX (x_pgab TX P) k) sl63) (fl63 : Fr (mW w) s sl63), n < k + f63 → GW SC E (gFin SC E (gQi SC (fun r s' => Fr (mW w) s s' ∧ cI TX nT n l w (x_pass TX P) s' ∧ r = x_crd TX P))) 63 [some (.ref (e_ad E w)), some (.int x12), some (.int y)] [] sl63 := by
            intro f63
            induction f63 with
            | zero =>
              intro k y sl63 Ey hk il63 fl63 hf63
              exact absurd hf63 (by omega)
            | succ f63 ih63 =>
              intro k y sl63 Ey hk il63 fl63 hf63
              refine G_iload_n (i := 2) C 64 dX9_pass_63 rfl rfl rfl ?_
              refine G_aload_n (i := 0) C 65 dX9_pass_64 rfl rfl rfl ?_
              refine X9_57g C hw 68 dX9_pass_65 rfl (fun x65 ex65 => ?_)
              have Sx65 : x65 = nI n := ex65.trans (cI_n il63)
              refine G_icmp_ge C 100 71 dX9_pass_68 rfl rfl (fun c68 => ?_) (fun c68 => ?_)
              ·
                have n68 : ¬ k < n := fun h => c68 ((g_ltN (a := k) (b := n) (hx := Ey) (hy := Sx65) (by omega) (by omega)).mpr h)
                have i3 : cI TX nT n l w (x_pmov TX P) sl63 := by unfold x_pmov; rw [x_nOf hI.2.2.1.1 hn6]; have e : k = n := (by omega); subst e; exact il63
                refine G_aload_n (i := 0) C 101 dX9_pass_100 rfl rfl rfl ?_
                refine G_aload_n (i := 0) C 102 dX9_pass_101 rfl rfl rfl ?_
                refine X9_51g C hw 105 dX9_pass_102 rfl (fun x102 ex102 => ?_)
                have Sx102 : x102 = (x_pmov TX P) 0 1 := ex102.trans (cI_v i3 0 1)
                refine G_iconst (v := 1) C 106 dX9_pass_105 rfl rfl ?_
                refine G_iadd C 107 dX9_pass_106 rfl (fun x106 ex106 => ?_)
                refine G_bipush (v := 9) C 109 dX9_pass_107 rfl rfl ?_
                refine G_irem C 110 dX9_pass_109 rfl (by decide) (fun x109 ex109 => ?_)
                refine X9_51p C hw 113 dX9_pass_110 rfl (fun s110 es110 => ?_)
                have i_3 : cI TX nT n l w (x_pcor (x_pmov TX P)) s110 := by have z := cI_corner i3 es110 (by obtain ⟨q, hq, eq⟩ := i3.2.2.1.2.2.2.2.2.2.2.2; rw [ex109, ex106, Sx102, eq, nI_1, show (9 : Int32) = nI 9 from rfl, pk_rem (by omega) (by omega) (by omega)]; exact ⟨_, Nat.mod_lt _ (by decide), rfl⟩); rw [ex109, ex106, Sx102] at z; exact z
                have f_3 : Fr (mW w) s s110 := Fr.tr fl63 (Fr.upW (i := 0) es110 (by decide))
                refine G_aload_n (i := 0) C 114 dX9_pass_113 rfl rfl rfl ?_
                refine G_dup C 115 dX9_pass_114 rfl rfl ?_
                refine X9_48g C hw 118 dX9_pass_115 rfl (fun x115 ex115 => ?_)
                have Sx115 : x115 = (x_pcor (x_pmov TX P)) 0 0 := ex115.trans (cI_v i_3 0 0)
                refine G_iconst (v := 1) C 119 dX9_pass_118 rfl rfl ?_
                refine G_iadd C 120 dX9_pass_119 rfl (fun x119 ex119 => ?_)
                refine X9_48p C hw 123 dX9_pass_120 rfl (fun s120 es120 => ?_)
                have i_4 : cI TX nT n l w (x_pass TX P) s120 := by have z := cI_hour i_3 es120; rw [ex119, Sx115] at z; exact z
                have f_4 : Fr (mW w) s s120 := Fr.tr f_3 (Fr.upW (i := 0) es120 (by decide))
                refine G_iload_n (i := 1) C 124 dX9_pass_123 rfl rfl rfl ?_
                exact G_iret C dX9_pass_124 (⟨f_4, i_4, T12⟩)
              ·
                have n68 : k < n := (g_ltN (a := k) (b := n) (hx := Ey) (hy := Sx65) (by omega) (by omega)).mp c68
                refine G_aload_n (i := 0) C 72 dX9_pass_71 rfl rfl rfl ?_
                refine X9_19g C hw 75 dX9_pass_72 rfl ?_
                refine G_iload_n (i := 2) C 76 dX9_pass_75 rfl rfl rfl ?_
                refine G_aload_n (i := 0) C 77 dX9_pass_76 rfl rfl rfl ?_
                refine X9_19g C hw 80 dX9_pass_77 rfl ?_
                refine G_iload_n (i := 2) C 81 dX9_pass_80 rfl rfl rfl ?_
                refine G_iald (n := 6) C 82 (lW hw (by decide)) (eW2 _ _ _ hw) (k) Ey (by omega) (by decide) dX9_pass_81 rfl (fun x81 ex81 => ?_)
                have Sx81 : x81 = (x_movN TX (x_pgab TX P) k) 2 (k) := ex81.trans (congrFun (congrFun il63.2.1 2) _)
                refine G_aload_n (i := 0) C 83 dX9_pass_82 rfl rfl rfl ?_
                refine G_iload_n (i := 2) C 84 dX9_pass_83 rfl rfl rfl ?_
                refine G_calli 87 (G_runV C Kc_X9_goes KV_X9_128 (by omega) (lW0 hw) (eW _ _ _ hw) rfl (c_X9_goes 0 TX nT n l w (x_movN TX (x_pgab TX P) k) sl63 il63 y k Ey (by omega)) rfl rfl rfl (Nat.le_of_ble_eq_true rfl) rfl dX9_pass_84) rfl (fun x84 s84 h84 => ?_)
                have i_3 : cI TX nT n l w (x_movN TX (x_pgab TX P) k) s84 := cI_fr il63 (h84.1)
                have f_3 : Fr (mW w) s s84 := Fr.tr fl63 (Fr.S (h84.1))
                refine G_iadd C 88 dX9_pass_87 rfl (fun x87 ex87 => ?_)
                refine G_bipush (v := 9) C 90 dX9_pass_88 rfl rfl ?_
                refine G_calli 93 (G_runS C Kc_J9_floorMod_7cf53 KS_X9_131 (by omega) (c_J9_floorMod_7cf53 0 x87 s84) rfl rfl (Nat.le_of_ble_eq_true rfl) rfl dX9_pass_90) rfl (fun x90 s90 h90 => ?_)
                obtain ⟨es90, h90⟩ := h90
                have es90 := es90.symm
                subst es90
                refine G_iast (n := 6) C 94 (lW hw (by decide)) (fun σ => eW2 _ _ σ hw) (k) Ey (by omega) (by decide) (Nat.le_of_eq (nWi hw (by decide) (by decide)).symm) dX9_pass_93 rfl (fun s93 es93 => ?_)
                have i_4 : cI TX nT n l w (x_movN TX (x_pgab TX P) (k + 1)) s93 := by have z := cI_up2 i_3 es93; rw [h90, ex87, Sx81, h84.2] at z; exact z
                have f_4 : Fr (mW w) s s93 := Fr.tr f_3 (Fr.upW es93 (by decide))
                refine G_iinc (w := 1) C 97 dX9_pass_94 rfl rfl rfl rfl (fun x94 ex94 => ?_)
                have Nx94 : x94 = nI (k + 1) := g_addN ex94 Ey rfl
                show GW SC E _ 97 [some (.ref (e_ad E w)), some (.int x12), some (.int x94)] [] s93
                refine G_goto C 63 dX9_pass_97 rfl ?_
                exact ih63 (k + 1) x94 s93 (g_cn (a := (k + 1)) Nx94 (by first | rfl | omega | (simp only [List.length_cons, List.length_drop]; done) | (simp only [List.length_cons, List.length_drop]; omega))) (by omega) (i_4) f_4 (by omega)
          exact L63 (n + 1) 0 0 sl28 (g_cn (a := 0) rfl (by first | rfl | omega)) (by omega) (i4) fl28 (by omega)
        ·
          have n33 : k < n := (g_ltN (a := k) (b := n) (hx := Ey) (hy := Sx30) (by omega) (by omega)).mp c33
          refine G_aload_n (i := 0) C 37 dX9_pass_36 rfl rfl rfl ?_
          refine X9_25g C hw 40 dX9_pass_37 rfl ?_
          refine G_iload_n (i := 2) C 41 dX9_pass_40 rfl rfl rfl ?_
          refine G_dup2 C 42 dX9_pass_41 rfl rfl rfl ?_
          refine G_iald (n := 6) C 43 (lW hw (by decide)) (eW4 _ _ _ hw) (k) Ey (by omega) (by decide) dX9_pass_42 rfl (fun x42 ex42 => ?_)
          have Sx42 : x42 = (x_gabN TX (x_pcry TX P) n k) 4 (k) := ex42.trans (congrFun (congrFun il28.2.1 4) _)
          obtain ⟨mx42, hmx42, emx42⟩ := (cI_p il28 (p := k) (by omega)).2.2
          refine G_aload_n (i := 0) C 44 dX9_pass_43 rfl rfl rfl ?_
          refine G_iload_n (i := 2) C 45 dX9_pass_44 rfl rfl rfl ?_
          refine G_aload_n (i := 0) C 46 dX9_pass_45 rfl rfl rfl ?_
          refine G_iload_n (i := 2) C 47 dX9_pass_46 rfl rfl rfl ?_
          refine G_calli 50 (G_runV C Kc_X9_knownBeside KV_X9_125 (by omega) (lW0 hw) (eW _ _ _ hw) rfl (c_X9_knownBeside 0 TX nT n l w (x_gabN TX (x_pcry TX P) n k) sl28 il28 y k Ey (by omega)) rfl rfl rfl (Nat.le_of_ble_eq_true rfl) rfl dX9_pass_47) rfl (fun x47 s47 h47 => ?_)
          obtain ⟨es47, h47⟩ := h47
          have es47 := es47.symm
          subst es47
          refine G_calli 53 (G_runV C Kc_X9_wishedBy KV_X9_112 (by omega) (lW0 hw) (eW _ _ _ hw) rfl (c_X9_wishedBy 0 TX nT n l w (x_gabN TX (x_pcry TX P) n k) sl28 il28 y k Ey (by omega) x47) rfl rfl rfl (Nat.le_of_ble_eq_true rfl) rfl dX9_pass_50) rfl (fun x50 s50 h50 => ?_)
          have i_3 : cI TX nT n l w (x_gabN TX (x_pcry TX P) n k) s50 := cI_fr il28 (h50.1)
          have f_3 : Fr (mW w) s s50 := Fr.tr fl28 (Fr.S (h50.1))
          refine G_ior C 54 dX9_pass_53 rfl (fun x53 ex53 => ?_)
          refine G_iast (n := 6) C 55 (lW hw (by decide)) (fun σ => eW4 _ _ σ hw) (k) Ey (by omega) (by decide) (Nat.le_of_eq (nWi hw (by decide) (by decide)).symm) dX9_pass_54 rfl (fun s54 es54 => ?_)
          have i_4 : cI TX nT n l w (x_gabN TX (x_pcry TX P) n (k + 1)) s54 := by have z := cI_up4 i_3 es54 (by rw [ex53, Sx42, h50.2]; exact bt_or1024 ⟨mx42, hmx42, emx42⟩ (x_wset1024 _ _ _ _ 10 (by omega))); rw [ex53, Sx42, h50.2, h47] at z; exact z
          have f_4 : Fr (mW w) s s54 := Fr.tr f_3 (Fr.upW es54 (by decide))
          refine G_iinc (w := 1) C 58 dX9_pass_55 rfl rfl rfl rfl (fun x55 ex55 => ?_)
          have Nx55 : x55 = nI (k + 1) := g_addN ex55 Ey rfl
          show GW SC E _ 58 [some (.ref (e_ad E w)), some (.int x12), some (.int x55)] [] s54
          refine G_goto C 28 dX9_pass_58 rfl ?_
          exact ih28 (k + 1) x55 s54 (g_cn (a := (k + 1)) Nx55 (by first | rfl | omega | (simp only [List.length_cons, List.length_drop]; done) | (simp only [List.length_cons, List.length_drop]; omega))) (by omega) (i_4) f_4 (by omega)
    exact L28 (n + 1) 0 0 s23 (g_cn (a := 0) rfl (by first | rfl | omega)) (by omega) (i2) f_2 (by omega)
theorem dX9_passMany_0 : decode cX9_passMany 0 = .ok (.iconst 0, 1) := by decide +kernel
theorem dX9_passMany_1 : decode cX9_passMany 1 = .ok (.istore_n 2, 1) := by decide +kernel
theorem dX9_passMany_2 : decode cX9_passMany 2 = .ok (.iconst 0, 1) := by decide +kernel
theorem dX9_passMany_3 : decode cX9_passMany 3 = .ok (.istore_n 3, 1) := by decide +kernel
theorem dX9_passMany_4 : decode cX9_passMany 4 = .ok (.iload_n 3, 1) := by decide +kernel
theorem dX9_passMany_5 : decode cX9_passMany 5 = .ok (.iload_n 1, 1) := by decide +kernel
theorem dX9_passMany_6 : decode cX9_passMany 6 = .ok (.if_icmp .ge 20, 3) := by decide +kernel
theorem dX9_passMany_9 : decode cX9_passMany 9 = .ok (.aload_n 0, 1) := by decide +kernel
theorem dX9_passMany_10 : decode cX9_passMany 10 = .ok (.invokevirtual 136, 3) := by decide +kernel
theorem dX9_passMany_13 : decode cX9_passMany 13 = .ok (.iconst (-1), 1) := by decide +kernel
theorem dX9_passMany_14 : decode cX9_passMany 14 = .ok (.if_icmp .eq 6, 3) := by decide +kernel
theorem dX9_passMany_17 : decode cX9_passMany 17 = .ok (.iinc 2 1, 3) := by decide +kernel
theorem dX9_passMany_20 : decode cX9_passMany 20 = .ok (.iinc 3 1, 3) := by decide +kernel
theorem dX9_passMany_23 : decode cX9_passMany 23 = .ok (.goto (-19), 3) := by decide +kernel
theorem dX9_passMany_26 : decode cX9_passMany 26 = .ok (.iload_n 2, 1) := by decide +kernel
theorem dX9_passMany_27 : decode cX9_passMany 27 = .ok (.ireturn, 1) := by decide +kernel
set_option maxHeartbeats 4000000 in
set_option maxRecDepth 100000 in
theorem c_X9_passMany (d : Nat) (TX : gTX) (nT n l w : Nat) (P s : gS) (hI : cI TX nT n l w P s) (x : Int32) (m : Nat) (hx : x = nI m) (hm : m ≤ 1000) : gMt SC yX9_passMany cX9_passMany 4 (some .int) (d + 9) (fun ad => [.ref (ad w), .int x]) s (gQi SC (fun r s' => Fr (mW w) s s' ∧ cI TX nT n l w (x_run TX m P) s' ∧ r = x_cr TX m P)) := by
  have hw := hI.1
  have hn6 : n ≤ 6 := hI.2.2.1.2.1
  have hl6 : l < 6 := cI_l6 hI
  refine gMt_of SC_ok (by decide +kernel) (fun ad => [some (.ref (ad w)), some (.int x), none, none]) (fun _ => rfl) (fun _ => rfl) (fun _ => Nat.le_of_ble_eq_true rfl) (fun E C0 => ?_)
  have C : gCx SC E RX9 cX9_passMany 4 (some .int) (d + 9) := C0
  have i : cI TX nT n l w P s := hI
  have f : Fr (mW w) s s := Fr.rf
  refine G_iconst (v := 0) C 1 dX9_passMany_0 rfl rfl ?_
  refine G_istore_n (i := 2) (L' := [some (.ref (e_ad E w)), some (.int x), some (.int 0), none]) C 2 dX9_passMany_1 rfl rfl (Nat.le_of_ble_eq_true rfl) rfl rfl ?_
  refine G_iconst (v := 0) C 3 dX9_passMany_2 rfl rfl ?_
  refine G_istore_n (i := 3) (L' := [some (.ref (e_ad E w)), some (.int x), some (.int 0), some (.int 0)]) C 4 dX9_passMany_3 rfl rfl (Nat.le_of_ble_eq_true rfl) rfl rfl ?_
  have L4 : ∀ (f4 : Nat) (k : Nat) (a y : Int32) (sl4 : gS) (Ey : y = nI k) (hk : k ≤ m) (ha : a = x_cr TX k P) (il4 : cI TX nT n l w (x_run TX k P) sl4) (fl4 : Fr (mW w) s sl4), m < k + f4 → GW SC E (gFin SC E (gQi SC (fun r s' => Fr (mW w) s s' ∧ cI TX nT n l w (x_run TX m P) s' ∧ r = x_cr TX m P))) 4 [some (.ref (e_ad E w)), some (.int x), some (.int a), some (.int y)] [] sl4 := by
    intro f4
    induction f4 with
    | zero =>
      intro k a y sl4 Ey hk ha il4 fl4 hf4
      exact absurd hf4 (by omega)
    | succ f4 ih4 =>
      intro k a y sl4 Ey hk ha il4 fl4 hf4
      refine G_iload_n (i := 3) C 5 dX9_passMany_4 rfl rfl rfl ?_
      refine G_iload_n (i := 1) C 6 dX9_passMany_5 rfl rfl rfl ?_
      refine G_icmp_ge C 26 9 dX9_passMany_6 rfl rfl (fun c6 => ?_) (fun c6 => ?_)
      ·
        have n6 : ¬ k < m := fun h => c6 ((g_ltN (a := k) (b := m) (hx := Ey) (hy := hx) (by omega) (by omega)).mpr h)
        refine G_iload_n (i := 2) C 27 dX9_passMany_26 rfl rfl rfl ?_
        exact G_iret C dX9_passMany_27 (⟨fl4, by have e : k = m := (by omega); subst e; exact ⟨il4, ha⟩⟩)
      ·
        have n6 : k < m := (g_ltN (a := k) (b := m) (hx := Ey) (hy := hx) (by omega) (by omega)).mp c6
        refine G_aload_n (i := 0) C 10 dX9_passMany_9 rfl rfl rfl ?_
        refine G_calli 13 (G_runV C Kc_X9_pass KV_X9_136 (by omega) (lW0 hw) (eW _ _ _ hw) rfl (c_X9_pass 0 TX nT n l w (x_run TX k P) sl4 il4) rfl rfl rfl (Nat.le_of_ble_eq_true rfl) rfl dX9_passMany_10) rfl (fun x10 s10 h10 => ?_)
        have i_1 : cI TX nT n l w (x_run TX (k + 1) P) s10 := h10.2.1
        have f_1 : Fr (mW w) s s10 := Fr.tr fl4 h10.1
        refine G_iconst (v := (-1)) C 14 dX9_passMany_13 rfl rfl ?_
        refine G_icmp_eq C 20 17 dX9_passMany_14 rfl rfl (fun c14 => ?_) (fun c14 => ?_)
        ·
          refine G_iinc (w := 1) C 23 dX9_passMany_20 rfl rfl rfl rfl (fun x20 ex20 => ?_)
          have Nx20 : x20 = nI (k + 1) := g_addN ex20 Ey rfl
          show GW SC E _ 23 [some (.ref (e_ad E w)), some (.int x), some (.int a), some (.int x20)] [] s10
          refine G_goto C 4 dX9_passMany_23 rfl ?_
          exact ih4 (k + 1) a x20 s10 (g_cn (a := (k + 1)) Nx20 (by first | rfl | omega | (simp only [List.length_cons, List.length_drop]; done) | (simp only [List.length_cons, List.length_drop]; omega))) (by omega) (by rw [x_cr, if_pos (h10.2.2.symm.trans c14), ha]) (i_1) f_1 (by omega)
        ·
          refine G_iinc (w := 1) C 20 dX9_passMany_17 rfl rfl rfl rfl (fun x17 ex17 => ?_)
          show GW SC E _ 20 [some (.ref (e_ad E w)), some (.int x), some (.int x17), some (.int y)] [] s10
          refine G_iinc (w := 1) C 23 dX9_passMany_20 rfl rfl rfl rfl (fun x20 ex20 => ?_)
          have Nx20 : x20 = nI (k + 1) := g_addN ex20 Ey rfl
          show GW SC E _ 23 [some (.ref (e_ad E w)), some (.int x), some (.int x17), some (.int x20)] [] s10
          refine G_goto C 4 dX9_passMany_23 rfl ?_
          exact ih4 (k + 1) x17 x20 s10 (g_cn (a := (k + 1)) Nx20 (by first | rfl | omega | (simp only [List.length_cons, List.length_drop]; done) | (simp only [List.length_cons, List.length_drop]; omega))) (by omega) (by rw [x_cr, if_neg (by rw [← h10.2.2]; exact c14), ex17, ha]) (i_1) f_1 (by omega)
  exact L4 (m + 1) 0 0 0 s (g_cn (a := 0) rfl (by first | rfl | omega)) (by omega) (rfl) (i) f (by omega)
