theorem x_mayN01 (TX : gTX) (P : gS) (c : Int32) (t : Nat) : ∀ k, x_mayN TX P c t k = 0 ∨ x_mayN TX P c t k = 1 := by
  intro k
  induction k with
  | zero => exact Or.inr rfl
  | succ k ih =>
    unfold x_mayN
    repeat (first | exact ih | exact Or.inl rfl | split)
theorem x_mayN0 (TX : gTX) (P : gS) (c : Int32) (t : Nat) {k : Nat} (h : x_mayN TX P c t k = 0) : ∀ j, x_mayN TX P c t (k + j) = 0 := by
  intro j
  induction j with
  | zero => exact h
  | succ j ih =>
    show x_mayN TX P c t (k + j + 1) = 0
    unfold x_mayN
    repeat (first | exact ih | rfl | split)
theorem x_firstE (v : Int32) {k t : Nat} (hk : ∀ j, k ≤ j → j < t → x_bit v (nI j) = 0) : ∀ f, t ≤ k + f → k ≤ t → x_first v f k = x_first v (f - (t - k)) t := by
  intro f
  induction f generalizing k with
  | zero => intro h1 h2; rw [show t = k by omega]; simp
  | succ f ih =>
    intro h1 h2
    by_cases e : k = t
    · subst e
      simp
    · unfold x_first
      rw [if_pos (hk k (Nat.le_refl _) (by omega)), ih (fun j h3 h4 => hk j (by omega) h4) (by omega) (by omega), show f - (t - (k + 1)) = f + 1 - (t - k) by omega]
      cases f + 1 - (t - k) <;> rfl
theorem mays_b (TX : gTX) (P : gS) (c of : Int32) {t : Nat} (ht : t < 10) : x_bit (x_mays TX P c of) (nI t) = 0 ↔ (x_bit of (nI t) = 0 ∨ x_may TX P c t = 0) := by
  unfold x_mays
  rw [bt_x _ t (by omega), bt_x _ t (by omega), mays_bt TX P c of 10 (by omega) t (by omega)]
  cases of.toBitVec.getLsbD t <;> by_cases h : x_may TX P c t = 0 <;> simp [ht, h]
theorem dX11_whoAt_0 : decode cX11_whoAt 0 = .ok (.iconst 0, 1) := by decide +kernel
theorem dX11_whoAt_1 : decode cX11_whoAt 1 = .ok (.istore_n 2, 1) := by decide +kernel
theorem dX11_whoAt_2 : decode cX11_whoAt 2 = .ok (.iconst 0, 1) := by decide +kernel
theorem dX11_whoAt_3 : decode cX11_whoAt 3 = .ok (.istore_n 3, 1) := by decide +kernel
theorem dX11_whoAt_4 : decode cX11_whoAt 4 = .ok (.iload_n 3, 1) := by decide +kernel
theorem dX11_whoAt_5 : decode cX11_whoAt 5 = .ok (.aload_n 0, 1) := by decide +kernel
theorem dX11_whoAt_6 : decode cX11_whoAt 6 = .ok (.getfield 75, 3) := by decide +kernel
theorem dX11_whoAt_9 : decode cX11_whoAt 9 = .ok (.if_icmp .ge 31, 3) := by decide +kernel
theorem dX11_whoAt_12 : decode cX11_whoAt 12 = .ok (.iload_n 2, 1) := by decide +kernel
theorem dX11_whoAt_13 : decode cX11_whoAt 13 = .ok (.aload_n 0, 1) := by decide +kernel
theorem dX11_whoAt_14 : decode cX11_whoAt 14 = .ok (.getfield 16, 3) := by decide +kernel
theorem dX11_whoAt_17 : decode cX11_whoAt 17 = .ok (.iconst 4, 1) := by decide +kernel
theorem dX11_whoAt_18 : decode cX11_whoAt 18 = .ok (.iload_n 3, 1) := by decide +kernel
theorem dX11_whoAt_19 : decode cX11_whoAt 19 = .ok (.imul, 1) := by decide +kernel
theorem dX11_whoAt_20 : decode cX11_whoAt 20 = .ok (.iaload, 1) := by decide +kernel
theorem dX11_whoAt_21 : decode cX11_whoAt 21 = .ok (.iload_n 1, 1) := by decide +kernel
theorem dX11_whoAt_22 : decode cX11_whoAt 22 = .ok (.if_icmp .ne 9, 3) := by decide +kernel
theorem dX11_whoAt_25 : decode cX11_whoAt 25 = .ok (.iconst 1, 1) := by decide +kernel
theorem dX11_whoAt_26 : decode cX11_whoAt 26 = .ok (.iload_n 3, 1) := by decide +kernel
theorem dX11_whoAt_27 : decode cX11_whoAt 27 = .ok (.ishl, 1) := by decide +kernel
theorem dX11_whoAt_28 : decode cX11_whoAt 28 = .ok (.goto 4, 3) := by decide +kernel
theorem dX11_whoAt_31 : decode cX11_whoAt 31 = .ok (.iconst 0, 1) := by decide +kernel
theorem dX11_whoAt_32 : decode cX11_whoAt 32 = .ok (.ior, 1) := by decide +kernel
theorem dX11_whoAt_33 : decode cX11_whoAt 33 = .ok (.istore_n 2, 1) := by decide +kernel
theorem dX11_whoAt_34 : decode cX11_whoAt 34 = .ok (.iinc 3 1, 3) := by decide +kernel
theorem dX11_whoAt_37 : decode cX11_whoAt 37 = .ok (.goto (-33), 3) := by decide +kernel
theorem dX11_whoAt_40 : decode cX11_whoAt 40 = .ok (.iload_n 2, 1) := by decide +kernel
theorem dX11_whoAt_41 : decode cX11_whoAt 41 = .ok (.ireturn, 1) := by decide +kernel
set_option maxHeartbeats 4000000 in
set_option maxRecDepth 100000 in
theorem c_X11_whoAt (d : Nat) (TX : gTX) (nT n l : Nat) (P s : gS) (hI : mI TX nT n l P s) (c : Int32) : gMt SM yX11_whoAt cX11_whoAt 4 (some .int) (d + 1) (fun ad => [.ref (ad 0), .int c]) s (gQi SM (fun r s' => s' = s ∧ r = x_at P c n)) := by
  have hn6 : n ≤ 6 := hI.2.1.2.1
  have hl6 : l < 6 := mI_l6 hI
  refine gMt_of SM_ok (by decide +kernel) (fun ad => [some (.ref (ad 0)), some (.int c), none, none]) (fun _ => rfl) (fun _ => rfl) (fun _ => Nat.le_of_ble_eq_true rfl) (fun E C0 => ?_)
  have C : gCx SM E RX11 cX11_whoAt 4 (some .int) (d + 1) := C0
  have i : mI TX nT n l P s := hI
  have f : Fr mM s s := Fr.rf
  refine G_iconst (v := 0) C 1 dX11_whoAt_0 rfl rfl ?_
  refine G_istore_n (i := 2) (L' := [some (.ref (e_ad E 0)), some (.int c), some (.int 0), none]) C 2 dX11_whoAt_1 rfl rfl (Nat.le_of_ble_eq_true rfl) rfl rfl ?_
  refine G_iconst (v := 0) C 3 dX11_whoAt_2 rfl rfl ?_
  refine G_istore_n (i := 3) (L' := [some (.ref (e_ad E 0)), some (.int c), some (.int 0), some (.int 0)]) C 4 dX11_whoAt_3 rfl rfl (Nat.le_of_ble_eq_true rfl) rfl rfl ?_
  have L4 : ∀ (f4 : Nat) (k : Nat) (a y : Int32) (Ey : y = nI k) (hk : k ≤ n) (ha : a = x_at P c k), n < k + f4 → GW SM E (gFin SM E (gQi SM (fun r s' => s' = s ∧ r = x_at P c n))) 4 [some (.ref (e_ad E 0)), some (.int c), some (.int a), some (.int y)] [] s := by
    intro f4
    induction f4 with
    | zero =>
      intro k a y Ey hk ha hf4
      exact absurd hf4 (by omega)
    | succ f4 ih4 =>
      intro k a y Ey hk ha hf4
      refine G_iload_n (i := 3) C 5 dX11_whoAt_4 rfl rfl rfl ?_
      refine G_aload_n (i := 0) C 6 dX11_whoAt_5 rfl rfl rfl ?_
      refine X11_75g C 9 dX11_whoAt_6 rfl (fun x6 ex6 => ?_)
      have Sx6 : x6 = nI n := ex6.trans (mI_n i)
      refine G_icmp_ge C 40 12 dX11_whoAt_9 rfl rfl (fun c9 => ?_) (fun c9 => ?_)
      ·
        have n9 : ¬ k < n := fun h => c9 ((g_ltN (a := k) (b := n) (hx := Ey) (hy := Sx6) (by omega) (by omega)).mpr h)
        refine G_iload_n (i := 2) C 41 dX11_whoAt_40 rfl rfl rfl ?_
        exact G_iret C dX11_whoAt_41 (⟨rfl, by rw [ha, show k = n by omega]⟩)
      ·
        have n9 : k < n := (g_ltN (a := k) (b := n) (hx := Ey) (hy := Sx6) (by omega) (by omega)).mp c9
        refine G_iload_n (i := 2) C 13 dX11_whoAt_12 rfl rfl rfl ?_
        refine G_aload_n (i := 0) C 14 dX11_whoAt_13 rfl rfl rfl ?_
        refine X11_16g C 17 dX11_whoAt_14 rfl ?_
        refine G_iconst (v := 4) C 18 dX11_whoAt_17 rfl rfl ?_
        refine G_iload_n (i := 3) C 19 dX11_whoAt_18 rfl rfl rfl ?_
        refine G_imul C 20 dX11_whoAt_19 rfl (fun x19 ex19 => ?_)
        have Nx19 : x19 = nI (4 * k) := g_mulN ex19 rfl Ey
        refine G_iald (n := 24) C 21 (by decide) (eMk (by decide) _ _ _) ((4 * k)) Nx19 (by omega) (by decide) dX11_whoAt_20 rfl (fun x20 ex20 => ?_)
        have Sx20 : x20 = P 2 k := ex20.trans (congrFun (congrFun i.1 2) k)
        refine G_iload_n (i := 1) C 22 dX11_whoAt_21 rfl rfl rfl ?_
        refine G_icmp_ne C 31 25 dX11_whoAt_22 rfl rfl (fun c22 => ?_) (fun c22 => ?_)
        ·
          refine G_iconst (v := 0) C 32 dX11_whoAt_31 rfl rfl ?_
          refine G_ior C 33 dX11_whoAt_32 rfl (fun x32 ex32 => ?_)
          refine G_istore_n (i := 2) (L' := [some (.ref (e_ad E 0)), some (.int c), some (.int x32), some (.int y)]) C 34 dX11_whoAt_33 rfl rfl (Nat.le_of_ble_eq_true rfl) rfl rfl ?_
          refine G_iinc (w := 1) C 37 dX11_whoAt_34 rfl rfl rfl rfl (fun x34 ex34 => ?_)
          have Nx34 : x34 = nI (k + 1) := g_addN ex34 Ey rfl
          show GW SM E _ 37 [some (.ref (e_ad E 0)), some (.int c), some (.int x32), some (.int x34)] [] s
          refine G_goto C 4 dX11_whoAt_37 rfl ?_
          exact ih4 (k + 1) x32 x34  (g_cn (a := (k + 1)) Nx34 (by first | rfl | omega | (simp only [List.length_cons, List.length_drop]; done) | (simp only [List.length_cons, List.length_drop]; omega))) (by omega) (by rw [x_at, if_neg (by rw [← Sx20]; exact c22), ex32, y_or0, ha]) (by omega)
        ·
          refine G_iconst (v := 1) C 26 dX11_whoAt_25 rfl rfl ?_
          refine G_iload_n (i := 3) C 27 dX11_whoAt_26 rfl rfl rfl ?_
          refine G_ishl C 28 dX11_whoAt_27 rfl (fun x27 ex27 => ?_)
          refine G_goto C 32 dX11_whoAt_28 rfl ?_
          refine G_ior C 33 dX11_whoAt_32 rfl (fun x32 ex32 => ?_)
          refine G_istore_n (i := 2) (L' := [some (.ref (e_ad E 0)), some (.int c), some (.int x32), some (.int y)]) C 34 dX11_whoAt_33 rfl rfl (Nat.le_of_ble_eq_true rfl) rfl rfl ?_
          refine G_iinc (w := 1) C 37 dX11_whoAt_34 rfl rfl rfl rfl (fun x34 ex34 => ?_)
          have Nx34 : x34 = nI (k + 1) := g_addN ex34 Ey rfl
          show GW SM E _ 37 [some (.ref (e_ad E 0)), some (.int c), some (.int x32), some (.int x34)] [] s
          refine G_goto C 4 dX11_whoAt_37 rfl ?_
          exact ih4 (k + 1) x32 x34  (g_cn (a := (k + 1)) Nx34 (by first | rfl | omega | (simp only [List.length_cons, List.length_drop]; done) | (simp only [List.length_cons, List.length_drop]; omega))) (by omega) (by rw [x_at, if_pos (Sx20.symm.trans c22), ex32, ex27, Ey, ha]) (by omega)
  exact L4 (n + 1) 0 0 0  (g_cn (a := 0) rfl (by first | rfl | omega)) (by omega) (rfl) (by omega)
theorem dX11_listeners_0 : decode cX11_listeners 0 = .ok (.iconst 0, 1) := by decide +kernel
theorem dX11_listeners_1 : decode cX11_listeners 1 = .ok (.istore_n 2, 1) := by decide +kernel
theorem dX11_listeners_2 : decode cX11_listeners 2 = .ok (.iconst 0, 1) := by decide +kernel
theorem dX11_listeners_3 : decode cX11_listeners 3 = .ok (.istore_n 3, 1) := by decide +kernel
theorem dX11_listeners_4 : decode cX11_listeners 4 = .ok (.iload_n 3, 1) := by decide +kernel
theorem dX11_listeners_5 : decode cX11_listeners 5 = .ok (.aload_n 0, 1) := by decide +kernel
theorem dX11_listeners_6 : decode cX11_listeners 6 = .ok (.getfield 75, 3) := by decide +kernel
theorem dX11_listeners_9 : decode cX11_listeners 9 = .ok (.if_icmp .ge 39, 3) := by decide +kernel
theorem dX11_listeners_12 : decode cX11_listeners 12 = .ok (.aload_n 0, 1) := by decide +kernel
theorem dX11_listeners_13 : decode cX11_listeners 13 = .ok (.getfield 16, 3) := by decide +kernel
theorem dX11_listeners_16 : decode cX11_listeners 16 = .ok (.iconst 4, 1) := by decide +kernel
theorem dX11_listeners_17 : decode cX11_listeners 17 = .ok (.iload_n 3, 1) := by decide +kernel
theorem dX11_listeners_18 : decode cX11_listeners 18 = .ok (.imul, 1) := by decide +kernel
theorem dX11_listeners_19 : decode cX11_listeners 19 = .ok (.iaload, 1) := by decide +kernel
theorem dX11_listeners_20 : decode cX11_listeners 20 = .ok (.iload_n 1, 1) := by decide +kernel
theorem dX11_listeners_21 : decode cX11_listeners 21 = .ok (.if_icmp .ne 21, 3) := by decide +kernel
theorem dX11_listeners_24 : decode cX11_listeners 24 = .ok (.iload_n 2, 1) := by decide +kernel
theorem dX11_listeners_25 : decode cX11_listeners 25 = .ok (.aload_n 0, 1) := by decide +kernel
theorem dX11_listeners_26 : decode cX11_listeners 26 = .ok (.iload_n 3, 1) := by decide +kernel
theorem dX11_listeners_27 : decode cX11_listeners 27 = .ok (.invokevirtual 188, 3) := by decide +kernel
theorem dX11_listeners_30 : decode cX11_listeners 30 = .ok (.ifCond .eq 9, 3) := by decide +kernel
theorem dX11_listeners_33 : decode cX11_listeners 33 = .ok (.iconst 1, 1) := by decide +kernel
theorem dX11_listeners_34 : decode cX11_listeners 34 = .ok (.iload_n 3, 1) := by decide +kernel
theorem dX11_listeners_35 : decode cX11_listeners 35 = .ok (.ishl, 1) := by decide +kernel
theorem dX11_listeners_36 : decode cX11_listeners 36 = .ok (.goto 4, 3) := by decide +kernel
theorem dX11_listeners_39 : decode cX11_listeners 39 = .ok (.iconst 0, 1) := by decide +kernel
theorem dX11_listeners_40 : decode cX11_listeners 40 = .ok (.ior, 1) := by decide +kernel
theorem dX11_listeners_41 : decode cX11_listeners 41 = .ok (.istore_n 2, 1) := by decide +kernel
theorem dX11_listeners_42 : decode cX11_listeners 42 = .ok (.iinc 3 1, 3) := by decide +kernel
theorem dX11_listeners_45 : decode cX11_listeners 45 = .ok (.goto (-41), 3) := by decide +kernel
theorem dX11_listeners_48 : decode cX11_listeners 48 = .ok (.iload_n 2, 1) := by decide +kernel
theorem dX11_listeners_49 : decode cX11_listeners 49 = .ok (.ireturn, 1) := by decide +kernel
set_option maxHeartbeats 4000000 in
set_option maxRecDepth 100000 in
theorem c_X11_listeners (d : Nat) (TX : gTX) (nT n l : Nat) (P s : gS) (hI : mI TX nT n l P s) (c : Int32) : gMt SM yX11_listeners cX11_listeners 4 (some .int) (d + 2) (fun ad => [.ref (ad 0), .int c]) s (gQi SM (fun r s' => s' = s ∧ r = x_lisAt P c n)) := by
  have hn6 : n ≤ 6 := hI.2.1.2.1
  have hl6 : l < 6 := mI_l6 hI
  refine gMt_of SM_ok (by decide +kernel) (fun ad => [some (.ref (ad 0)), some (.int c), none, none]) (fun _ => rfl) (fun _ => rfl) (fun _ => Nat.le_of_ble_eq_true rfl) (fun E C0 => ?_)
  have C : gCx SM E RX11 cX11_listeners 4 (some .int) (d + 2) := C0
  have i : mI TX nT n l P s := hI
  have f : Fr mM s s := Fr.rf
  refine G_iconst (v := 0) C 1 dX11_listeners_0 rfl rfl ?_
  refine G_istore_n (i := 2) (L' := [some (.ref (e_ad E 0)), some (.int c), some (.int 0), none]) C 2 dX11_listeners_1 rfl rfl (Nat.le_of_ble_eq_true rfl) rfl rfl ?_
  refine G_iconst (v := 0) C 3 dX11_listeners_2 rfl rfl ?_
  refine G_istore_n (i := 3) (L' := [some (.ref (e_ad E 0)), some (.int c), some (.int 0), some (.int 0)]) C 4 dX11_listeners_3 rfl rfl (Nat.le_of_ble_eq_true rfl) rfl rfl ?_
  have L4 : ∀ (f4 : Nat) (k : Nat) (a y : Int32) (Ey : y = nI k) (hk : k ≤ n) (ha : a = x_lisAt P c k), n < k + f4 → GW SM E (gFin SM E (gQi SM (fun r s' => s' = s ∧ r = x_lisAt P c n))) 4 [some (.ref (e_ad E 0)), some (.int c), some (.int a), some (.int y)] [] s := by
    intro f4
    induction f4 with
    | zero =>
      intro k a y Ey hk ha hf4
      exact absurd hf4 (by omega)
    | succ f4 ih4 =>
      intro k a y Ey hk ha hf4
      refine G_iload_n (i := 3) C 5 dX11_listeners_4 rfl rfl rfl ?_
      refine G_aload_n (i := 0) C 6 dX11_listeners_5 rfl rfl rfl ?_
      refine X11_75g C 9 dX11_listeners_6 rfl (fun x6 ex6 => ?_)
      have Sx6 : x6 = nI n := ex6.trans (mI_n i)
      refine G_icmp_ge C 48 12 dX11_listeners_9 rfl rfl (fun c9 => ?_) (fun c9 => ?_)
      ·
        have n9 : ¬ k < n := fun h => c9 ((g_ltN (a := k) (b := n) (hx := Ey) (hy := Sx6) (by omega) (by omega)).mpr h)
        refine G_iload_n (i := 2) C 49 dX11_listeners_48 rfl rfl rfl ?_
        exact G_iret C dX11_listeners_49 (⟨rfl, by rw [ha, show k = n by omega]⟩)
      ·
        have n9 : k < n := (g_ltN (a := k) (b := n) (hx := Ey) (hy := Sx6) (by omega) (by omega)).mp c9
        refine G_aload_n (i := 0) C 13 dX11_listeners_12 rfl rfl rfl ?_
        refine X11_16g C 16 dX11_listeners_13 rfl ?_
        refine G_iconst (v := 4) C 17 dX11_listeners_16 rfl rfl ?_
        refine G_iload_n (i := 3) C 18 dX11_listeners_17 rfl rfl rfl ?_
        refine G_imul C 19 dX11_listeners_18 rfl (fun x18 ex18 => ?_)
        have Nx18 : x18 = nI (4 * k) := g_mulN ex18 rfl Ey
        refine G_iald (n := 24) C 20 (by decide) (eMk (by decide) _ _ _) ((4 * k)) Nx18 (by omega) (by decide) dX11_listeners_19 rfl (fun x19 ex19 => ?_)
        have Sx19 : x19 = P 2 k := ex19.trans (congrFun (congrFun i.1 2) k)
        refine G_iload_n (i := 1) C 21 dX11_listeners_20 rfl rfl rfl ?_
        refine G_icmp_ne C 42 24 dX11_listeners_21 rfl rfl (fun c21 => ?_) (fun c21 => ?_)
        ·
          refine G_iinc (w := 1) C 45 dX11_listeners_42 rfl rfl rfl rfl (fun x42 ex42 => ?_)
          have Nx42 : x42 = nI (k + 1) := g_addN ex42 Ey rfl
          show GW SM E _ 45 [some (.ref (e_ad E 0)), some (.int c), some (.int a), some (.int x42)] [] s
          refine G_goto C 4 dX11_listeners_45 rfl ?_
          exact ih4 (k + 1) a x42  (g_cn (a := (k + 1)) Nx42 (by first | rfl | omega | (simp only [List.length_cons, List.length_drop]; done) | (simp only [List.length_cons, List.length_drop]; omega))) (by omega) (by rw [x_lisAt, if_neg (by rw [← Sx19]; exact c21), ha]) (by omega)
        ·
          refine G_iload_n (i := 2) C 25 dX11_listeners_24 rfl rfl rfl ?_
          refine G_aload_n (i := 0) C 26 dX11_listeners_25 rfl rfl rfl ?_
          refine G_iload_n (i := 3) C 27 dX11_listeners_26 rfl rfl rfl ?_
          refine G_calli 30 (G_runV C Kc_X11_listens KV_X11_188 (by omega) (by decide) (eM _ _ _) rfl (c_X11_listens 0 TX nT n l P s i y k Ey (by omega)) rfl rfl rfl (Nat.le_of_ble_eq_true rfl) rfl dX11_listeners_27) rfl (fun x27 s27 h27 => ?_)
          obtain ⟨es27, h27⟩ := h27
          have es27 := es27.symm
          subst es27
          refine G_if_eq C 39 33 dX11_listeners_30 rfl rfl (fun c30 => ?_) (fun c30 => ?_)
          ·
            refine G_iconst (v := 0) C 40 dX11_listeners_39 rfl rfl ?_
            refine G_ior C 41 dX11_listeners_40 rfl (fun x40 ex40 => ?_)
            refine G_istore_n (i := 2) (L' := [some (.ref (e_ad E 0)), some (.int c), some (.int x40), some (.int y)]) C 42 dX11_listeners_41 rfl rfl (Nat.le_of_ble_eq_true rfl) rfl rfl ?_
            refine G_iinc (w := 1) C 45 dX11_listeners_42 rfl rfl rfl rfl (fun x42 ex42 => ?_)
            have Nx42 : x42 = nI (k + 1) := g_addN ex42 Ey rfl
            show GW SM E _ 45 [some (.ref (e_ad E 0)), some (.int c), some (.int x40), some (.int x42)] [] s
            refine G_goto C 4 dX11_listeners_45 rfl ?_
            exact ih4 (k + 1) x40 x42  (g_cn (a := (k + 1)) Nx42 (by first | rfl | omega | (simp only [List.length_cons, List.length_drop]; done) | (simp only [List.length_cons, List.length_drop]; omega))) (by omega) (by rw [x_lisAt, if_pos (Sx19.symm.trans c21), if_pos (h27.symm.trans c30), ex40, y_or0, ha]) (by omega)
          ·
            refine G_iconst (v := 1) C 34 dX11_listeners_33 rfl rfl ?_
            refine G_iload_n (i := 3) C 35 dX11_listeners_34 rfl rfl rfl ?_
            refine G_ishl C 36 dX11_listeners_35 rfl (fun x35 ex35 => ?_)
            refine G_goto C 40 dX11_listeners_36 rfl ?_
            refine G_ior C 41 dX11_listeners_40 rfl (fun x40 ex40 => ?_)
            refine G_istore_n (i := 2) (L' := [some (.ref (e_ad E 0)), some (.int c), some (.int x40), some (.int y)]) C 42 dX11_listeners_41 rfl rfl (Nat.le_of_ble_eq_true rfl) rfl rfl ?_
            refine G_iinc (w := 1) C 45 dX11_listeners_42 rfl rfl rfl rfl (fun x42 ex42 => ?_)
            have Nx42 : x42 = nI (k + 1) := g_addN ex42 Ey rfl
            show GW SM E _ 45 [some (.ref (e_ad E 0)), some (.int c), some (.int x40), some (.int x42)] [] s
            refine G_goto C 4 dX11_listeners_45 rfl ?_
            exact ih4 (k + 1) x40 x42  (g_cn (a := (k + 1)) Nx42 (by first | rfl | omega | (simp only [List.length_cons, List.length_drop]; done) | (simp only [List.length_cons, List.length_drop]; omega))) (by omega) (by rw [x_lisAt, if_pos (Sx19.symm.trans c21), if_neg (by rw [← h27]; exact c30), ex40, ex35, Ey, ha]) (by omega)
  exact L4 (n + 1) 0 0 0  (g_cn (a := 0) rfl (by first | rfl | omega)) (by omega) (rfl) (by omega)
theorem dX11_may_0 : decode cX11_may 0 = .ok (.iconst 0, 1) := by decide +kernel
theorem dX11_may_1 : decode cX11_may 1 = .ok (.istore_n 3, 1) := by decide +kernel
theorem dX11_may_2 : decode cX11_may 2 = .ok (.iload_n 3, 1) := by decide +kernel
theorem dX11_may_3 : decode cX11_may 3 = .ok (.aload_n 0, 1) := by decide +kernel
theorem dX11_may_4 : decode cX11_may 4 = .ok (.getfield 75, 3) := by decide +kernel
theorem dX11_may_7 : decode cX11_may 7 = .ok (.if_icmp .ge 40, 3) := by decide +kernel
theorem dX11_may_10 : decode cX11_may 10 = .ok (.aload_n 0, 1) := by decide +kernel
theorem dX11_may_11 : decode cX11_may 11 = .ok (.getfield 16, 3) := by decide +kernel
theorem dX11_may_14 : decode cX11_may 14 = .ok (.iconst 4, 1) := by decide +kernel
theorem dX11_may_15 : decode cX11_may 15 = .ok (.iload_n 3, 1) := by decide +kernel
theorem dX11_may_16 : decode cX11_may 16 = .ok (.imul, 1) := by decide +kernel
theorem dX11_may_17 : decode cX11_may 17 = .ok (.iaload, 1) := by decide +kernel
theorem dX11_may_18 : decode cX11_may 18 = .ok (.iload_n 1, 1) := by decide +kernel
theorem dX11_may_19 : decode cX11_may 19 = .ok (.if_icmp .ne 22, 3) := by decide +kernel
theorem dX11_may_22 : decode cX11_may 22 = .ok (.aload_n 0, 1) := by decide +kernel
theorem dX11_may_23 : decode cX11_may 23 = .ok (.iload_n 3, 1) := by decide +kernel
theorem dX11_may_24 : decode cX11_may 24 = .ok (.invokevirtual 188, 3) := by decide +kernel
theorem dX11_may_27 : decode cX11_may 27 = .ok (.ifCond .eq 14, 3) := by decide +kernel
theorem dX11_may_30 : decode cX11_may 30 = .ok (.aload_n 0, 1) := by decide +kernel
theorem dX11_may_31 : decode cX11_may 31 = .ok (.iload_n 3, 1) := by decide +kernel
theorem dX11_may_32 : decode cX11_may 32 = .ok (.iload_n 2, 1) := by decide +kernel
theorem dX11_may_33 : decode cX11_may 33 = .ok (.invokevirtual 181, 3) := by decide +kernel
theorem dX11_may_36 : decode cX11_may 36 = .ok (.ifCond .eq 5, 3) := by decide +kernel
theorem dX11_may_39 : decode cX11_may 39 = .ok (.iconst 0, 1) := by decide +kernel
theorem dX11_may_40 : decode cX11_may 40 = .ok (.ireturn, 1) := by decide +kernel
theorem dX11_may_41 : decode cX11_may 41 = .ok (.iinc 3 1, 3) := by decide +kernel
theorem dX11_may_44 : decode cX11_may 44 = .ok (.goto (-42), 3) := by decide +kernel
theorem dX11_may_47 : decode cX11_may 47 = .ok (.iconst 1, 1) := by decide +kernel
theorem dX11_may_48 : decode cX11_may 48 = .ok (.ireturn, 1) := by decide +kernel
set_option maxHeartbeats 4000000 in
set_option maxRecDepth 100000 in
theorem c_X11_may (d : Nat) (TX : gTX) (nT n l : Nat) (P s : gS) (hI : mI TX nT n l P s) (c : Int32) (t : Int32) (tt : Nat) (ht : t = nI tt) (htt : tt < 10) : gMt SM yX11_may cX11_may 4 (some .boolean) (d + 7) (fun ad => [.ref (ad 0), .int c, .int t]) s (gQi SM (fun r s' => Fr mM s s' ∧ r = x_may TX P c tt)) := by
  have hn6 : n ≤ 6 := hI.2.1.2.1
  have hl6 : l < 6 := mI_l6 hI
  refine gMt_of SM_ok (by decide +kernel) (fun ad => [some (.ref (ad 0)), some (.int c), some (.int t), none]) (fun _ => rfl) (fun _ => rfl) (fun _ => Nat.le_of_ble_eq_true rfl) (fun E C0 => ?_)
  have C : gCx SM E RX11 cX11_may 4 (some .boolean) (d + 7) := C0
  have i : mI TX nT n l P s := hI
  have f : Fr mM s s := Fr.rf
  refine G_iconst (v := 0) C 1 dX11_may_0 rfl rfl ?_
  refine G_istore_n (i := 3) (L' := [some (.ref (e_ad E 0)), some (.int c), some (.int t), some (.int 0)]) C 2 dX11_may_1 rfl rfl (Nat.le_of_ble_eq_true rfl) rfl rfl ?_
  have L2 : ∀ (f2 : Nat) (k : Nat) (y : Int32) (sl2 : gS) (Ey : y = nI k) (hk : k ≤ n) (hm : x_mayN TX P c tt k = 1) (il2 : mI TX nT n l P sl2) (fl2 : Fr mM s sl2), n < k + f2 → GW SM E (gFin SM E (gQi SM (fun r s' => Fr mM s s' ∧ r = x_may TX P c tt))) 2 [some (.ref (e_ad E 0)), some (.int c), some (.int t), some (.int y)] [] sl2 := by
    intro f2
    induction f2 with
    | zero =>
      intro k y sl2 Ey hk hm il2 fl2 hf2
      exact absurd hf2 (by omega)
    | succ f2 ih2 =>
      intro k y sl2 Ey hk hm il2 fl2 hf2
      refine G_iload_n (i := 3) C 3 dX11_may_2 rfl rfl rfl ?_
      refine G_aload_n (i := 0) C 4 dX11_may_3 rfl rfl rfl ?_
      refine X11_75g C 7 dX11_may_4 rfl (fun x4 ex4 => ?_)
      have Sx4 : x4 = nI n := ex4.trans (mI_n il2)
      refine G_icmp_ge C 47 10 dX11_may_7 rfl rfl (fun c7 => ?_) (fun c7 => ?_)
      ·
        have n7 : ¬ k < n := fun h => c7 ((g_ltN (a := k) (b := n) (hx := Ey) (hy := Sx4) (by omega) (by omega)).mpr h)
        refine G_iconst (v := 1) C 48 dX11_may_47 rfl rfl ?_
        exact G_zret C rfl dX11_may_48 (⟨fl2, by unfold x_may; rw [x_nOf hI.2.1.1 hn6, ← hm, show k = n by omega]⟩)
      ·
        have n7 : k < n := (g_ltN (a := k) (b := n) (hx := Ey) (hy := Sx4) (by omega) (by omega)).mp c7
        refine G_aload_n (i := 0) C 11 dX11_may_10 rfl rfl rfl ?_
        refine X11_16g C 14 dX11_may_11 rfl ?_
        refine G_iconst (v := 4) C 15 dX11_may_14 rfl rfl ?_
        refine G_iload_n (i := 3) C 16 dX11_may_15 rfl rfl rfl ?_
        refine G_imul C 17 dX11_may_16 rfl (fun x16 ex16 => ?_)
        have Nx16 : x16 = nI (4 * k) := g_mulN ex16 rfl Ey
        refine G_iald (n := 24) C 18 (by decide) (eMk (by decide) _ _ _) ((4 * k)) Nx16 (by omega) (by decide) dX11_may_17 rfl (fun x17 ex17 => ?_)
        have Sx17 : x17 = P 2 k := ex17.trans (congrFun (congrFun il2.1 2) k)
        refine G_iload_n (i := 1) C 19 dX11_may_18 rfl rfl rfl ?_
        refine G_icmp_ne C 41 22 dX11_may_19 rfl rfl (fun c19 => ?_) (fun c19 => ?_)
        ·
          refine G_iinc (w := 1) C 44 dX11_may_41 rfl rfl rfl rfl (fun x41 ex41 => ?_)
          have Nx41 : x41 = nI (k + 1) := g_addN ex41 Ey rfl
          show GW SM E _ 44 [some (.ref (e_ad E 0)), some (.int c), some (.int t), some (.int x41)] [] sl2
          refine G_goto C 2 dX11_may_44 rfl ?_
          exact ih2 (k + 1) x41 sl2 (g_cn (a := (k + 1)) Nx41 (by first | rfl | omega | (simp only [List.length_cons, List.length_drop]; done) | (simp only [List.length_cons, List.length_drop]; omega))) (by omega) (by rw [x_mayN, if_neg (by rw [← Sx17]; exact c19), hm]) il2 fl2 (by omega)
        ·
          refine G_aload_n (i := 0) C 23 dX11_may_22 rfl rfl rfl ?_
          refine G_iload_n (i := 3) C 24 dX11_may_23 rfl rfl rfl ?_
          refine G_calli 27 (G_runV C Kc_X11_listens KV_X11_188 (by omega) (by decide) (eM _ _ _) rfl (c_X11_listens 0 TX nT n l P sl2 il2 y k Ey (by omega)) rfl rfl rfl (Nat.le_of_ble_eq_true rfl) rfl dX11_may_24) rfl (fun x24 s24 h24 => ?_)
          obtain ⟨es24, h24⟩ := h24
          have es24 := es24.symm
          subst es24
          refine G_if_eq C 41 30 dX11_may_27 rfl rfl (fun c27 => ?_) (fun c27 => ?_)
          ·
            refine G_iinc (w := 1) C 44 dX11_may_41 rfl rfl rfl rfl (fun x41 ex41 => ?_)
            have Nx41 : x41 = nI (k + 1) := g_addN ex41 Ey rfl
            show GW SM E _ 44 [some (.ref (e_ad E 0)), some (.int c), some (.int t), some (.int x41)] [] sl2
            refine G_goto C 2 dX11_may_44 rfl ?_
            exact ih2 (k + 1) x41 sl2 (g_cn (a := (k + 1)) Nx41 (by first | rfl | omega | (simp only [List.length_cons, List.length_drop]; done) | (simp only [List.length_cons, List.length_drop]; omega))) (by omega) (by rw [x_mayN, if_pos (Sx17.symm.trans c19), if_pos (h24.symm.trans c27), hm]) il2 fl2 (by omega)
          ·
            refine G_aload_n (i := 0) C 31 dX11_may_30 rfl rfl rfl ?_
            refine G_iload_n (i := 3) C 32 dX11_may_31 rfl rfl rfl ?_
            refine G_iload_n (i := 2) C 33 dX11_may_32 rfl rfl rfl ?_
            refine G_calli 36 (G_runV C Kc_X11_wishes KV_X11_181 (by omega) (by decide) (eM _ _ _) rfl (c_X11_wishes 0 TX nT n l P sl2 il2 y k Ey (by omega) t tt ht (by omega)) rfl rfl rfl (Nat.le_of_ble_eq_true rfl) rfl dX11_may_33) rfl (fun x33 s33 h33 => ?_)
            have i_1 : mI TX nT n l P s33 := mI_fr il2 (h33.1)
            have f_1 : Fr mM s s33 := Fr.tr fl2 (h33.1)
            refine G_if_eq C 41 39 dX11_may_36 rfl rfl (fun c36 => ?_) (fun c36 => ?_)
            ·
              refine G_iinc (w := 1) C 44 dX11_may_41 rfl rfl rfl rfl (fun x41 ex41 => ?_)
              have Nx41 : x41 = nI (k + 1) := g_addN ex41 Ey rfl
              show GW SM E _ 44 [some (.ref (e_ad E 0)), some (.int c), some (.int t), some (.int x41)] [] s33
              refine G_goto C 2 dX11_may_44 rfl ?_
              exact ih2 (k + 1) x41 s33 (g_cn (a := (k + 1)) Nx41 (by first | rfl | omega | (simp only [List.length_cons, List.length_drop]; done) | (simp only [List.length_cons, List.length_drop]; omega))) (by omega) (by rw [x_mayN, if_pos (Sx17.symm.trans c19), if_neg (by rw [← h24]; exact c27), if_pos (h33.2.symm.trans c36), hm]) i_1 f_1 (by omega)
            ·
              refine G_iconst (v := 0) C 40 dX11_may_39 rfl rfl ?_
              exact G_zret C rfl dX11_may_40 (⟨f_1, by
                  have z : x_mayN TX P c tt (k + 1) = 0 := by rw [x_mayN, if_pos (Sx17.symm.trans c19), if_neg (by rw [← h24]; exact c27), if_neg (by rw [← h33.2]; exact c36)]
                  unfold x_may
                  rw [x_nOf hI.2.1.1 hn6, show n = k + 1 + (n - (k + 1)) by omega]
                  exact (x_mayN0 TX P c tt z _).symm⟩)
  exact L2 (n + 1) 0 0 s (g_cn (a := 0) rfl (by first | rfl | omega)) (by omega) (rfl) i f (by omega)
theorem dX11_maySet_0 : decode cX11_maySet 0 = .ok (.iconst 0, 1) := by decide +kernel
theorem dX11_maySet_1 : decode cX11_maySet 1 = .ok (.istore_n 3, 1) := by decide +kernel
theorem dX11_maySet_2 : decode cX11_maySet 2 = .ok (.iconst 0, 1) := by decide +kernel
theorem dX11_maySet_3 : decode cX11_maySet 3 = .ok (.istore 4, 2) := by decide +kernel
theorem dX11_maySet_5 : decode cX11_maySet 5 = .ok (.iload 4, 2) := by decide +kernel
theorem dX11_maySet_7 : decode cX11_maySet 7 = .ok (.bipush 10, 2) := by decide +kernel
theorem dX11_maySet_9 : decode cX11_maySet 9 = .ok (.if_icmp .ge 40, 3) := by decide +kernel
theorem dX11_maySet_12 : decode cX11_maySet 12 = .ok (.iload_n 2, 1) := by decide +kernel
theorem dX11_maySet_13 : decode cX11_maySet 13 = .ok (.iload 4, 2) := by decide +kernel
theorem dX11_maySet_15 : decode cX11_maySet 15 = .ok (.ishr, 1) := by decide +kernel
theorem dX11_maySet_16 : decode cX11_maySet 16 = .ok (.iconst 1, 1) := by decide +kernel
theorem dX11_maySet_17 : decode cX11_maySet 17 = .ok (.iand, 1) := by decide +kernel
theorem dX11_maySet_18 : decode cX11_maySet 18 = .ok (.iconst 1, 1) := by decide +kernel
theorem dX11_maySet_19 : decode cX11_maySet 19 = .ok (.if_icmp .ne 24, 3) := by decide +kernel
theorem dX11_maySet_22 : decode cX11_maySet 22 = .ok (.iload_n 3, 1) := by decide +kernel
theorem dX11_maySet_23 : decode cX11_maySet 23 = .ok (.aload_n 0, 1) := by decide +kernel
theorem dX11_maySet_24 : decode cX11_maySet 24 = .ok (.iload_n 1, 1) := by decide +kernel
theorem dX11_maySet_25 : decode cX11_maySet 25 = .ok (.iload 4, 2) := by decide +kernel
theorem dX11_maySet_27 : decode cX11_maySet 27 = .ok (.invokevirtual 194, 3) := by decide +kernel
theorem dX11_maySet_30 : decode cX11_maySet 30 = .ok (.ifCond .eq 10, 3) := by decide +kernel
theorem dX11_maySet_33 : decode cX11_maySet 33 = .ok (.iconst 1, 1) := by decide +kernel
theorem dX11_maySet_34 : decode cX11_maySet 34 = .ok (.iload 4, 2) := by decide +kernel
theorem dX11_maySet_36 : decode cX11_maySet 36 = .ok (.ishl, 1) := by decide +kernel
theorem dX11_maySet_37 : decode cX11_maySet 37 = .ok (.goto 4, 3) := by decide +kernel
theorem dX11_maySet_40 : decode cX11_maySet 40 = .ok (.iconst 0, 1) := by decide +kernel
theorem dX11_maySet_41 : decode cX11_maySet 41 = .ok (.ior, 1) := by decide +kernel
theorem dX11_maySet_42 : decode cX11_maySet 42 = .ok (.istore_n 3, 1) := by decide +kernel
theorem dX11_maySet_43 : decode cX11_maySet 43 = .ok (.iinc 4 1, 3) := by decide +kernel
theorem dX11_maySet_46 : decode cX11_maySet 46 = .ok (.goto (-41), 3) := by decide +kernel
theorem dX11_maySet_49 : decode cX11_maySet 49 = .ok (.iload_n 3, 1) := by decide +kernel
theorem dX11_maySet_50 : decode cX11_maySet 50 = .ok (.ireturn, 1) := by decide +kernel
set_option maxHeartbeats 4000000 in
set_option maxRecDepth 100000 in
theorem c_X11_maySet (d : Nat) (TX : gTX) (nT n l : Nat) (P s : gS) (hI : mI TX nT n l P s) (c of : Int32) : gMt SM yX11_maySet cX11_maySet 5 (some .int) (d + 8) (fun ad => [.ref (ad 0), .int c, .int of]) s (gQi SM (fun r s' => Fr mM s s' ∧ r = x_mays TX P c of)) := by
  have hn6 : n ≤ 6 := hI.2.1.2.1
  have hl6 : l < 6 := mI_l6 hI
  refine gMt_of SM_ok (by decide +kernel) (fun ad => [some (.ref (ad 0)), some (.int c), some (.int of), none, none]) (fun _ => rfl) (fun _ => rfl) (fun _ => Nat.le_of_ble_eq_true rfl) (fun E C0 => ?_)
  have C : gCx SM E RX11 cX11_maySet 5 (some .int) (d + 8) := C0
  have i : mI TX nT n l P s := hI
  have f : Fr mM s s := Fr.rf
  refine G_iconst (v := 0) C 1 dX11_maySet_0 rfl rfl ?_
  refine G_istore_n (i := 3) (L' := [some (.ref (e_ad E 0)), some (.int c), some (.int of), some (.int 0), none]) C 2 dX11_maySet_1 rfl rfl (Nat.le_of_ble_eq_true rfl) rfl rfl ?_
  refine G_iconst (v := 0) C 3 dX11_maySet_2 rfl rfl ?_
  refine G_istore (L' := [some (.ref (e_ad E 0)), some (.int c), some (.int of), some (.int 0), some (.int 0)]) C 5 dX11_maySet_3 rfl (Nat.le_of_ble_eq_true rfl) rfl rfl ?_
  have L5 : ∀ (f5 : Nat) (k : Nat) (a y : Int32) (sl5 : gS) (Ey : y = nI k) (hk : k ≤ 10) (ha : a = x_maysN TX P c of k) (il5 : mI TX nT n l P sl5) (fl5 : Fr mM s sl5), 10 < k + f5 → GW SM E (gFin SM E (gQi SM (fun r s' => Fr mM s s' ∧ r = x_mays TX P c of))) 5 [some (.ref (e_ad E 0)), some (.int c), some (.int of), some (.int a), some (.int y)] [] sl5 := by
    intro f5
    induction f5 with
    | zero =>
      intro k a y sl5 Ey hk ha il5 fl5 hf5
      exact absurd hf5 (by omega)
    | succ f5 ih5 =>
      intro k a y sl5 Ey hk ha il5 fl5 hf5
      refine G_iload C 7 dX11_maySet_5 rfl rfl ?_
      refine G_bipush (v := 10) C 9 dX11_maySet_7 rfl rfl ?_
      refine G_icmp_ge C 49 12 dX11_maySet_9 rfl rfl (fun c9 => ?_) (fun c9 => ?_)
      ·
        have n9 : ¬ k < 10 := fun h => c9 ((g_ltN (a := k) (b := 10) (hx := Ey) (hy := rfl) (by omega) (by omega)).mpr h)
        refine G_iload_n (i := 3) C 50 dX11_maySet_49 rfl rfl rfl ?_
        exact G_iret C dX11_maySet_50 (⟨fl5, by rw [ha, show k = 10 by omega]; rfl⟩)
      ·
        have n9 : k < 10 := (g_ltN (a := k) (b := 10) (hx := Ey) (hy := rfl) (by omega) (by omega)).mp c9
        refine G_iload_n (i := 2) C 13 dX11_maySet_12 rfl rfl rfl ?_
        refine G_iload C 15 dX11_maySet_13 rfl rfl ?_
        refine G_ishr C 16 dX11_maySet_15 rfl (fun x15 ex15 => ?_)
        refine G_iconst (v := 1) C 17 dX11_maySet_16 rfl rfl ?_
        refine G_iand C 18 dX11_maySet_17 rfl (fun x17 ex17 => ?_)
        refine G_iconst (v := 1) C 19 dX11_maySet_18 rfl rfl ?_
        refine G_icmp_ne C 43 22 dX11_maySet_19 rfl rfl (fun c19 => ?_) (fun c19 => ?_)
        ·
          refine G_iinc (w := 1) C 46 dX11_maySet_43 rfl rfl rfl rfl (fun x43 ex43 => ?_)
          have Nx43 : x43 = nI (k + 1) := g_addN ex43 Ey rfl
          show GW SM E _ 46 [some (.ref (e_ad E 0)), some (.int c), some (.int of), some (.int a), some (.int x43)] [] sl5
          refine G_goto C 5 dX11_maySet_46 rfl ?_
          exact ih5 (k + 1) a x43 sl5 (g_cn (a := (k + 1)) Nx43 (by first | rfl | omega | (simp only [List.length_cons, List.length_drop]; done) | (simp only [List.length_cons, List.length_drop]; omega))) (by omega) (by rw [x_maysN, if_pos (x_bitN1 (by unfold x_bit; rw [← Ey, ← ex15, ← ex17]; exact c19)), ha]) il5 fl5 (by omega)
        ·
          refine G_iload_n (i := 3) C 23 dX11_maySet_22 rfl rfl rfl ?_
          refine G_aload_n (i := 0) C 24 dX11_maySet_23 rfl rfl rfl ?_
          refine G_iload_n (i := 1) C 25 dX11_maySet_24 rfl rfl rfl ?_
          refine G_iload C 27 dX11_maySet_25 rfl rfl ?_
          refine G_calli 30 (G_runV C Kc_X11_may KV_X11_194 (by omega) (by decide) (eM _ _ _) rfl (c_X11_may 0 TX nT n l P sl5 il5 c y k Ey (by omega)) rfl rfl rfl (Nat.le_of_ble_eq_true rfl) rfl dX11_maySet_27) rfl (fun x27 s27 h27 => ?_)
          have i_1 : mI TX nT n l P s27 := mI_fr il5 (h27.1)
          have f_1 : Fr mM s s27 := Fr.tr fl5 (h27.1)
          refine G_if_eq C 40 33 dX11_maySet_30 rfl rfl (fun c30 => ?_) (fun c30 => ?_)
          ·
            refine G_iconst (v := 0) C 41 dX11_maySet_40 rfl rfl ?_
            refine G_ior C 42 dX11_maySet_41 rfl (fun x41 ex41 => ?_)
            refine G_istore_n (i := 3) (L' := [some (.ref (e_ad E 0)), some (.int c), some (.int of), some (.int x41), some (.int y)]) C 43 dX11_maySet_42 rfl rfl (Nat.le_of_ble_eq_true rfl) rfl rfl ?_
            refine G_iinc (w := 1) C 46 dX11_maySet_43 rfl rfl rfl rfl (fun x43 ex43 => ?_)
            have Nx43 : x43 = nI (k + 1) := g_addN ex43 Ey rfl
            show GW SM E _ 46 [some (.ref (e_ad E 0)), some (.int c), some (.int of), some (.int x41), some (.int x43)] [] s27
            refine G_goto C 5 dX11_maySet_46 rfl ?_
            exact ih5 (k + 1) x41 x43 s27 (g_cn (a := (k + 1)) Nx43 (by first | rfl | omega | (simp only [List.length_cons, List.length_drop]; done) | (simp only [List.length_cons, List.length_drop]; omega))) (by omega) (by rw [x_maysN, if_neg (x_bit1N (by unfold x_bit; rw [← Ey, ← ex15, ← ex17]; exact c19)), if_pos (h27.2.symm.trans c30), ex41, y_or0, ha]) i_1 f_1 (by omega)
          ·
            refine G_iconst (v := 1) C 34 dX11_maySet_33 rfl rfl ?_
            refine G_iload C 36 dX11_maySet_34 rfl rfl ?_
            refine G_ishl C 37 dX11_maySet_36 rfl (fun x36 ex36 => ?_)
            refine G_goto C 41 dX11_maySet_37 rfl ?_
            refine G_ior C 42 dX11_maySet_41 rfl (fun x41 ex41 => ?_)
            refine G_istore_n (i := 3) (L' := [some (.ref (e_ad E 0)), some (.int c), some (.int of), some (.int x41), some (.int y)]) C 43 dX11_maySet_42 rfl rfl (Nat.le_of_ble_eq_true rfl) rfl rfl ?_
            refine G_iinc (w := 1) C 46 dX11_maySet_43 rfl rfl rfl rfl (fun x43 ex43 => ?_)
            have Nx43 : x43 = nI (k + 1) := g_addN ex43 Ey rfl
            show GW SM E _ 46 [some (.ref (e_ad E 0)), some (.int c), some (.int of), some (.int x41), some (.int x43)] [] s27
            refine G_goto C 5 dX11_maySet_46 rfl ?_
            exact ih5 (k + 1) x41 x43 s27 (g_cn (a := (k + 1)) Nx43 (by first | rfl | omega | (simp only [List.length_cons, List.length_drop]; done) | (simp only [List.length_cons, List.length_drop]; omega))) (by omega) (by rw [x_maysN, if_neg (x_bit1N (by unfold x_bit; rw [← Ey, ← ex15, ← ex17]; exact c19)), if_neg (by rw [← h27.2]; exact c30), ex41, ex36, Ey, ha]) i_1 f_1 (by omega)
  exact L5 (10 + 1) 0 0 0 s (g_cn (a := 0) rfl (by first | rfl | omega)) (by omega) (rfl) i f (by omega)
theorem dX11_criedNow_0 : decode cX11_criedNow 0 = .ok (.iconst 0, 1) := by decide +kernel
theorem dX11_criedNow_1 : decode cX11_criedNow 1 = .ok (.istore_n 1, 1) := by decide +kernel
theorem dX11_criedNow_2 : decode cX11_criedNow 2 = .ok (.iload_n 1, 1) := by decide +kernel
theorem dX11_criedNow_3 : decode cX11_criedNow 3 = .ok (.bipush 10, 2) := by decide +kernel
theorem dX11_criedNow_5 : decode cX11_criedNow 5 = .ok (.if_icmp .ge 39, 3) := by decide +kernel
theorem dX11_criedNow_8 : decode cX11_criedNow 8 = .ok (.aload_n 0, 1) := by decide +kernel
theorem dX11_criedNow_9 : decode cX11_criedNow 9 = .ok (.getfield 19, 3) := by decide +kernel
theorem dX11_criedNow_12 : decode cX11_criedNow 12 = .ok (.iconst 2, 1) := by decide +kernel
theorem dX11_criedNow_13 : decode cX11_criedNow 13 = .ok (.iaload, 1) := by decide +kernel
theorem dX11_criedNow_14 : decode cX11_criedNow 14 = .ok (.iload_n 1, 1) := by decide +kernel
theorem dX11_criedNow_15 : decode cX11_criedNow 15 = .ok (.ishr, 1) := by decide +kernel
theorem dX11_criedNow_16 : decode cX11_criedNow 16 = .ok (.iconst 1, 1) := by decide +kernel
theorem dX11_criedNow_17 : decode cX11_criedNow 17 = .ok (.iand, 1) := by decide +kernel
theorem dX11_criedNow_18 : decode cX11_criedNow 18 = .ok (.iconst 1, 1) := by decide +kernel
theorem dX11_criedNow_19 : decode cX11_criedNow 19 = .ok (.if_icmp .ne 19, 3) := by decide +kernel
theorem dX11_criedNow_22 : decode cX11_criedNow 22 = .ok (.aload_n 0, 1) := by decide +kernel
theorem dX11_criedNow_23 : decode cX11_criedNow 23 = .ok (.aload_n 0, 1) := by decide +kernel
theorem dX11_criedNow_24 : decode cX11_criedNow 24 = .ok (.getfield 19, 3) := by decide +kernel
theorem dX11_criedNow_27 : decode cX11_criedNow 27 = .ok (.iconst 1, 1) := by decide +kernel
theorem dX11_criedNow_28 : decode cX11_criedNow 28 = .ok (.iaload, 1) := by decide +kernel
theorem dX11_criedNow_29 : decode cX11_criedNow 29 = .ok (.iload_n 1, 1) := by decide +kernel
theorem dX11_criedNow_30 : decode cX11_criedNow 30 = .ok (.invokevirtual 194, 3) := by decide +kernel
theorem dX11_criedNow_33 : decode cX11_criedNow 33 = .ok (.ifCond .eq 5, 3) := by decide +kernel
theorem dX11_criedNow_36 : decode cX11_criedNow 36 = .ok (.iload_n 1, 1) := by decide +kernel
theorem dX11_criedNow_37 : decode cX11_criedNow 37 = .ok (.ireturn, 1) := by decide +kernel
theorem dX11_criedNow_38 : decode cX11_criedNow 38 = .ok (.iinc 1 1, 3) := by decide +kernel
theorem dX11_criedNow_41 : decode cX11_criedNow 41 = .ok (.goto (-39), 3) := by decide +kernel
theorem dX11_criedNow_44 : decode cX11_criedNow 44 = .ok (.iconst (-1), 1) := by decide +kernel
theorem dX11_criedNow_45 : decode cX11_criedNow 45 = .ok (.ireturn, 1) := by decide +kernel
set_option maxHeartbeats 4000000 in
set_option maxRecDepth 100000 in
theorem c_X11_criedNow (d : Nat) (TX : gTX) (nT n l : Nat) (P s : gS) (hI : mI TX nT n l P s) : gMt SM yX11_criedNow cX11_criedNow 2 (some .int) (d + 8) (fun ad => [.ref (ad 0)]) s (gQi SM (fun r s' => Fr mM s s' ∧ r = x_crd TX P)) := by
  have hn6 : n ≤ 6 := hI.2.1.2.1
  have hl6 : l < 6 := mI_l6 hI
  refine gMt_of SM_ok (by decide +kernel) (fun ad => [some (.ref (ad 0)), none]) (fun _ => rfl) (fun _ => rfl) (fun _ => Nat.le_of_ble_eq_true rfl) (fun E C0 => ?_)
  have C : gCx SM E RX11 cX11_criedNow 2 (some .int) (d + 8) := C0
  have i : mI TX nT n l P s := hI
  have f : Fr mM s s := Fr.rf
  refine G_iconst (v := 0) C 1 dX11_criedNow_0 rfl rfl ?_
  refine G_istore_n (i := 1) (L' := [some (.ref (e_ad E 0)), some (.int 0)]) C 2 dX11_criedNow_1 rfl rfl (Nat.le_of_ble_eq_true rfl) rfl rfl ?_
  have L2 : ∀ (f2 : Nat) (k : Nat) (y : Int32) (sl2 : gS) (Ey : y = nI k) (hk : k ≤ 10) (hz : ∀ j, j < k → x_bit (x_mays TX P (P 0 1) (P 0 2)) (nI j) = 0) (il2 : mI TX nT n l P sl2) (fl2 : Fr mM s sl2), 10 < k + f2 → GW SM E (gFin SM E (gQi SM (fun r s' => Fr mM s s' ∧ r = x_crd TX P))) 2 [some (.ref (e_ad E 0)), some (.int y)] [] sl2 := by
    intro f2
    induction f2 with
    | zero =>
      intro k y sl2 Ey hk hz il2 fl2 hf2
      exact absurd hf2 (by omega)
    | succ f2 ih2 =>
      intro k y sl2 Ey hk hz il2 fl2 hf2
      refine G_iload_n (i := 1) C 3 dX11_criedNow_2 rfl rfl rfl ?_
      refine G_bipush (v := 10) C 5 dX11_criedNow_3 rfl rfl ?_
      refine G_icmp_ge C 44 8 dX11_criedNow_5 rfl rfl (fun c5 => ?_) (fun c5 => ?_)
      ·
        have n5 : ¬ k < 10 := fun h => c5 ((g_ltN (a := k) (b := 10) (hx := Ey) (hy := rfl) (by omega) (by omega)).mpr h)
        refine G_iconst (v := (-1)) C 45 dX11_criedNow_44 rfl rfl ?_
        exact G_iret C dX11_criedNow_45 (⟨fl2, by unfold x_crd; rw [x_firstE _ (t := k) (fun j _ h => hz j h) 10 (by omega) (by omega), show 10 - (k - 0) = 0 by omega]; rfl⟩)
      ·
        have n5 : k < 10 := (g_ltN (a := k) (b := 10) (hx := Ey) (hy := rfl) (by omega) (by omega)).mp c5
        refine G_aload_n (i := 0) C 9 dX11_criedNow_8 rfl rfl rfl ?_
        refine X11_19g C 12 dX11_criedNow_9 rfl ?_
        refine G_iconst (v := 2) C 13 dX11_criedNow_12 rfl rfl ?_
        refine G_iald (n := 13) C 14 (by decide) (eMk (by decide) _ _ _) (2) rfl (by omega) (by decide) dX11_criedNow_13 rfl (fun x13 ex13 => ?_)
        have Sx13 : x13 = P 0 2 := ex13.trans (mI_v il2 0 2)
        refine G_iload_n (i := 1) C 15 dX11_criedNow_14 rfl rfl rfl ?_
        refine G_ishr C 16 dX11_criedNow_15 rfl (fun x15 ex15 => ?_)
        refine G_iconst (v := 1) C 17 dX11_criedNow_16 rfl rfl ?_
        refine G_iand C 18 dX11_criedNow_17 rfl (fun x17 ex17 => ?_)
        refine G_iconst (v := 1) C 19 dX11_criedNow_18 rfl rfl ?_
        refine G_icmp_ne C 38 22 dX11_criedNow_19 rfl rfl (fun c19 => ?_) (fun c19 => ?_)
        ·
          refine G_iinc (w := 1) C 41 dX11_criedNow_38 rfl rfl rfl rfl (fun x38 ex38 => ?_)
          have Nx38 : x38 = nI (k + 1) := g_addN ex38 Ey rfl
          show GW SM E _ 41 [some (.ref (e_ad E 0)), some (.int x38)] [] sl2
          refine G_goto C 2 dX11_criedNow_41 rfl ?_
          exact ih2 (k + 1) x38 sl2 (g_cn (a := (k + 1)) Nx38 (by first | rfl | omega | (simp only [List.length_cons, List.length_drop]; done) | (simp only [List.length_cons, List.length_drop]; omega))) (by omega) (fun j hj => by
                rcases Nat.lt_or_ge j k with q | q
                · exact hz j q
                · rw [show j = k by omega]
                  exact (mays_b TX P _ _ (by omega)).mpr (Or.inl (by rw [← Sx13]; exact x_bitN1 (by unfold x_bit; rw [← Ey, ← ex15, ← ex17]; exact c19)))) il2 fl2 (by omega)
        ·
          refine G_aload_n (i := 0) C 23 dX11_criedNow_22 rfl rfl rfl ?_
          refine G_aload_n (i := 0) C 24 dX11_criedNow_23 rfl rfl rfl ?_
          refine X11_19g C 27 dX11_criedNow_24 rfl ?_
          refine G_iconst (v := 1) C 28 dX11_criedNow_27 rfl rfl ?_
          refine G_iald (n := 13) C 29 (by decide) (eMk (by decide) _ _ _) (1) rfl (by omega) (by decide) dX11_criedNow_28 rfl (fun x28 ex28 => ?_)
          have Sx28 : x28 = P 0 1 := ex28.trans (mI_v il2 0 1)
          refine G_iload_n (i := 1) C 30 dX11_criedNow_29 rfl rfl rfl ?_
          refine G_calli 33 (G_runV C Kc_X11_may KV_X11_194 (by omega) (by decide) (eM _ _ _) rfl (c_X11_may 0 TX nT n l P sl2 il2 x28 y k Ey (by omega)) rfl rfl rfl (Nat.le_of_ble_eq_true rfl) rfl dX11_criedNow_30) rfl (fun x30 s30 h30 => ?_)
          have i_1 : mI TX nT n l P s30 := mI_fr il2 (h30.1)
          have f_1 : Fr mM s s30 := Fr.tr fl2 (h30.1)
          refine G_if_eq C 38 36 dX11_criedNow_33 rfl rfl (fun c33 => ?_) (fun c33 => ?_)
          ·
            refine G_iinc (w := 1) C 41 dX11_criedNow_38 rfl rfl rfl rfl (fun x38 ex38 => ?_)
            have Nx38 : x38 = nI (k + 1) := g_addN ex38 Ey rfl
            show GW SM E _ 41 [some (.ref (e_ad E 0)), some (.int x38)] [] s30
            refine G_goto C 2 dX11_criedNow_41 rfl ?_
            exact ih2 (k + 1) x38 s30 (g_cn (a := (k + 1)) Nx38 (by first | rfl | omega | (simp only [List.length_cons, List.length_drop]; done) | (simp only [List.length_cons, List.length_drop]; omega))) (by omega) (fun j hj => by
                  rcases Nat.lt_or_ge j k with q | q
                  · exact hz j q
                  · rw [show j = k by omega]
                    exact (mays_b TX P _ _ (by omega)).mpr (Or.inr (by rw [← Sx28, ← h30.2]; exact c33))) i_1 f_1 (by omega)
          ·
            refine G_iload_n (i := 1) C 37 dX11_criedNow_36 rfl rfl rfl ?_
            exact G_iret C dX11_criedNow_37 (⟨f_1, by unfold x_crd; rw [x_firstE _ (t := k) (fun j _ h => hz j h) 10 (by omega) (by omega), show 10 - (k - 0) = (9 - k) + 1 by omega, x_first, if_neg (fun q => by
                  rcases (mays_b TX P _ _ (by omega)).mp q with q1 | q1
                  · exact x_bit1N (s := x13) (p := nI k) (by unfold x_bit; rw [← Ey, ← ex15, ← ex17]; exact c19) (by rw [Sx13]; exact q1)
                  · exact c33 (by rw [h30.2, Sx28]; exact q1))]; exact Ey⟩)
  exact L2 (10 + 1) 0 0 s (g_cn (a := 0) rfl (by first | rfl | omega)) (by omega) (fun j hj => absurd hj (by omega)) i f (by omega)
theorem dX11_knownToOthers_0 : decode cX11_knownToOthers 0 = .ok (.iconst 0, 1) := by decide +kernel
theorem dX11_knownToOthers_1 : decode cX11_knownToOthers 1 = .ok (.istore_n 2, 1) := by decide +kernel
theorem dX11_knownToOthers_2 : decode cX11_knownToOthers 2 = .ok (.iconst 0, 1) := by decide +kernel
theorem dX11_knownToOthers_3 : decode cX11_knownToOthers 3 = .ok (.istore_n 3, 1) := by decide +kernel
theorem dX11_knownToOthers_4 : decode cX11_knownToOthers 4 = .ok (.iload_n 3, 1) := by decide +kernel
theorem dX11_knownToOthers_5 : decode cX11_knownToOthers 5 = .ok (.aload_n 0, 1) := by decide +kernel
theorem dX11_knownToOthers_6 : decode cX11_knownToOthers 6 = .ok (.getfield 75, 3) := by decide +kernel
theorem dX11_knownToOthers_9 : decode cX11_knownToOthers 9 = .ok (.if_icmp .ge 50, 3) := by decide +kernel
theorem dX11_knownToOthers_12 : decode cX11_knownToOthers 12 = .ok (.iload_n 2, 1) := by decide +kernel
theorem dX11_knownToOthers_13 : decode cX11_knownToOthers 13 = .ok (.iload_n 3, 1) := by decide +kernel
theorem dX11_knownToOthers_14 : decode cX11_knownToOthers 14 = .ok (.iload_n 1, 1) := by decide +kernel
theorem dX11_knownToOthers_15 : decode cX11_knownToOthers 15 = .ok (.if_icmp .eq 35, 3) := by decide +kernel
theorem dX11_knownToOthers_18 : decode cX11_knownToOthers 18 = .ok (.aload_n 0, 1) := by decide +kernel
theorem dX11_knownToOthers_19 : decode cX11_knownToOthers 19 = .ok (.getfield 16, 3) := by decide +kernel
theorem dX11_knownToOthers_22 : decode cX11_knownToOthers 22 = .ok (.iconst 4, 1) := by decide +kernel
theorem dX11_knownToOthers_23 : decode cX11_knownToOthers 23 = .ok (.iload_n 3, 1) := by decide +kernel
theorem dX11_knownToOthers_24 : decode cX11_knownToOthers 24 = .ok (.imul, 1) := by decide +kernel
theorem dX11_knownToOthers_25 : decode cX11_knownToOthers 25 = .ok (.iaload, 1) := by decide +kernel
theorem dX11_knownToOthers_26 : decode cX11_knownToOthers 26 = .ok (.aload_n 0, 1) := by decide +kernel
theorem dX11_knownToOthers_27 : decode cX11_knownToOthers 27 = .ok (.getfield 16, 3) := by decide +kernel
theorem dX11_knownToOthers_30 : decode cX11_knownToOthers 30 = .ok (.iconst 4, 1) := by decide +kernel
theorem dX11_knownToOthers_31 : decode cX11_knownToOthers 31 = .ok (.iload_n 1, 1) := by decide +kernel
theorem dX11_knownToOthers_32 : decode cX11_knownToOthers 32 = .ok (.imul, 1) := by decide +kernel
theorem dX11_knownToOthers_33 : decode cX11_knownToOthers 33 = .ok (.iaload, 1) := by decide +kernel
theorem dX11_knownToOthers_34 : decode cX11_knownToOthers 34 = .ok (.if_icmp .ne 16, 3) := by decide +kernel
theorem dX11_knownToOthers_37 : decode cX11_knownToOthers 37 = .ok (.aload_n 0, 1) := by decide +kernel
theorem dX11_knownToOthers_38 : decode cX11_knownToOthers 38 = .ok (.getfield 16, 3) := by decide +kernel
theorem dX11_knownToOthers_41 : decode cX11_knownToOthers 41 = .ok (.iconst 4, 1) := by decide +kernel
theorem dX11_knownToOthers_42 : decode cX11_knownToOthers 42 = .ok (.iload_n 3, 1) := by decide +kernel
theorem dX11_knownToOthers_43 : decode cX11_knownToOthers 43 = .ok (.imul, 1) := by decide +kernel
theorem dX11_knownToOthers_44 : decode cX11_knownToOthers 44 = .ok (.iconst 2, 1) := by decide +kernel
theorem dX11_knownToOthers_45 : decode cX11_knownToOthers 45 = .ok (.iadd, 1) := by decide +kernel
theorem dX11_knownToOthers_46 : decode cX11_knownToOthers 46 = .ok (.iaload, 1) := by decide +kernel
theorem dX11_knownToOthers_47 : decode cX11_knownToOthers 47 = .ok (.goto 4, 3) := by decide +kernel
theorem dX11_knownToOthers_50 : decode cX11_knownToOthers 50 = .ok (.iconst 0, 1) := by decide +kernel
theorem dX11_knownToOthers_51 : decode cX11_knownToOthers 51 = .ok (.ior, 1) := by decide +kernel
theorem dX11_knownToOthers_52 : decode cX11_knownToOthers 52 = .ok (.istore_n 2, 1) := by decide +kernel
theorem dX11_knownToOthers_53 : decode cX11_knownToOthers 53 = .ok (.iinc 3 1, 3) := by decide +kernel
theorem dX11_knownToOthers_56 : decode cX11_knownToOthers 56 = .ok (.goto (-52), 3) := by decide +kernel
theorem dX11_knownToOthers_59 : decode cX11_knownToOthers 59 = .ok (.iload_n 2, 1) := by decide +kernel
theorem dX11_knownToOthers_60 : decode cX11_knownToOthers 60 = .ok (.ireturn, 1) := by decide +kernel
set_option maxHeartbeats 4000000 in
set_option maxRecDepth 100000 in
theorem c_X11_knownToOthers (d : Nat) (TX : gTX) (nT n l : Nat) (P s : gS) (hI : mI TX nT n l P s) (x : Int32) (p : Nat) (hx : x = nI p) (hp : p < n) : gMt SM yX11_knownToOthers cX11_knownToOthers 4 (some .int) (d + 1) (fun ad => [.ref (ad 0), .int x]) s (gQi SM (fun r s' => s' = s ∧ r = x_bes P p n)) := by
  have hn6 : n ≤ 6 := hI.2.1.2.1
  have hl6 : l < 6 := mI_l6 hI
  refine gMt_of SM_ok (by decide +kernel) (fun ad => [some (.ref (ad 0)), some (.int x), none, none]) (fun _ => rfl) (fun _ => rfl) (fun _ => Nat.le_of_ble_eq_true rfl) (fun E C0 => ?_)
  have C : gCx SM E RX11 cX11_knownToOthers 4 (some .int) (d + 1) := C0
  have i : mI TX nT n l P s := hI
  have f : Fr mM s s := Fr.rf
  refine G_iconst (v := 0) C 1 dX11_knownToOthers_0 rfl rfl ?_
  refine G_istore_n (i := 2) (L' := [some (.ref (e_ad E 0)), some (.int x), some (.int 0), none]) C 2 dX11_knownToOthers_1 rfl rfl (Nat.le_of_ble_eq_true rfl) rfl rfl ?_
  refine G_iconst (v := 0) C 3 dX11_knownToOthers_2 rfl rfl ?_
  refine G_istore_n (i := 3) (L' := [some (.ref (e_ad E 0)), some (.int x), some (.int 0), some (.int 0)]) C 4 dX11_knownToOthers_3 rfl rfl (Nat.le_of_ble_eq_true rfl) rfl rfl ?_
  have L4 : ∀ (f4 : Nat) (k : Nat) (a y : Int32) (Ey : y = nI k) (hk : k ≤ n) (ha : a = x_bes P p k), n < k + f4 → GW SM E (gFin SM E (gQi SM (fun r s' => s' = s ∧ r = x_bes P p n))) 4 [some (.ref (e_ad E 0)), some (.int x), some (.int a), some (.int y)] [] s := by
    intro f4
    induction f4 with
    | zero =>
      intro k a y Ey hk ha hf4
      exact absurd hf4 (by omega)
    | succ f4 ih4 =>
      intro k a y Ey hk ha hf4
      refine G_iload_n (i := 3) C 5 dX11_knownToOthers_4 rfl rfl rfl ?_
      refine G_aload_n (i := 0) C 6 dX11_knownToOthers_5 rfl rfl rfl ?_
      refine X11_75g C 9 dX11_knownToOthers_6 rfl (fun x6 ex6 => ?_)
      have Sx6 : x6 = nI n := ex6.trans (mI_n i)
      refine G_icmp_ge C 59 12 dX11_knownToOthers_9 rfl rfl (fun c9 => ?_) (fun c9 => ?_)
      ·
        have n9 : ¬ k < n := fun h => c9 ((g_ltN (a := k) (b := n) (hx := Ey) (hy := Sx6) (by omega) (by omega)).mpr h)
        refine G_iload_n (i := 2) C 60 dX11_knownToOthers_59 rfl rfl rfl ?_
        exact G_iret C dX11_knownToOthers_60 (⟨rfl, by rw [ha, show k = n by omega]⟩)
      ·
        have n9 : k < n := (g_ltN (a := k) (b := n) (hx := Ey) (hy := Sx6) (by omega) (by omega)).mp c9
        refine G_iload_n (i := 2) C 13 dX11_knownToOthers_12 rfl rfl rfl ?_
        refine G_iload_n (i := 3) C 14 dX11_knownToOthers_13 rfl rfl rfl ?_
        refine G_iload_n (i := 1) C 15 dX11_knownToOthers_14 rfl rfl rfl ?_
        refine G_icmp_eq C 50 18 dX11_knownToOthers_15 rfl rfl (fun c15 => ?_) (fun c15 => ?_)
        ·
          have n15 : k = p := (g_eqN (a := k) (b := p) (hx := Ey) (hy := hx) (by omega) (by omega)).mp c15
          refine G_iconst (v := 0) C 51 dX11_knownToOthers_50 rfl rfl ?_
          refine G_ior C 52 dX11_knownToOthers_51 rfl (fun x51 ex51 => ?_)
          refine G_istore_n (i := 2) (L' := [some (.ref (e_ad E 0)), some (.int x), some (.int x51), some (.int y)]) C 53 dX11_knownToOthers_52 rfl rfl (Nat.le_of_ble_eq_true rfl) rfl rfl ?_
          refine G_iinc (w := 1) C 56 dX11_knownToOthers_53 rfl rfl rfl rfl (fun x53 ex53 => ?_)
          have Nx53 : x53 = nI (k + 1) := g_addN ex53 Ey rfl
          show GW SM E _ 56 [some (.ref (e_ad E 0)), some (.int x), some (.int x51), some (.int x53)] [] s
          refine G_goto C 4 dX11_knownToOthers_56 rfl ?_
          exact ih4 (k + 1) x51 x53  (g_cn (a := (k + 1)) Nx53 (by first | rfl | omega | (simp only [List.length_cons, List.length_drop]; done) | (simp only [List.length_cons, List.length_drop]; omega))) (by omega) (by rw [x_bes, if_pos n15, ex51, y_or0, ha]) (by omega)
        ·
          have n15 : ¬ k = p := fun h => c15 ((g_eqN (a := k) (b := p) (hx := Ey) (hy := hx) (by omega) (by omega)).mpr h)
          refine G_aload_n (i := 0) C 19 dX11_knownToOthers_18 rfl rfl rfl ?_
          refine X11_16g C 22 dX11_knownToOthers_19 rfl ?_
          refine G_iconst (v := 4) C 23 dX11_knownToOthers_22 rfl rfl ?_
          refine G_iload_n (i := 3) C 24 dX11_knownToOthers_23 rfl rfl rfl ?_
          refine G_imul C 25 dX11_knownToOthers_24 rfl (fun x24 ex24 => ?_)
          have Nx24 : x24 = nI (4 * k) := g_mulN ex24 rfl Ey
          refine G_iald (n := 24) C 26 (by decide) (eMk (by decide) _ _ _) ((4 * k)) Nx24 (by omega) (by decide) dX11_knownToOthers_25 rfl (fun x25 ex25 => ?_)
          have Sx25 : x25 = P 2 k := ex25.trans (congrFun (congrFun i.1 2) k)
          refine G_aload_n (i := 0) C 27 dX11_knownToOthers_26 rfl rfl rfl ?_
          refine X11_16g C 30 dX11_knownToOthers_27 rfl ?_
          refine G_iconst (v := 4) C 31 dX11_knownToOthers_30 rfl rfl ?_
          refine G_iload_n (i := 1) C 32 dX11_knownToOthers_31 rfl rfl rfl ?_
          refine G_imul C 33 dX11_knownToOthers_32 rfl (fun x32 ex32 => ?_)
          have Nx32 : x32 = nI (4 * p) := g_mulN ex32 rfl hx
          refine G_iald (n := 24) C 34 (by decide) (eMk (by decide) _ _ _) ((4 * p)) Nx32 (by omega) (by decide) dX11_knownToOthers_33 rfl (fun x33 ex33 => ?_)
          have Sx33 : x33 = P 2 p := ex33.trans (congrFun (congrFun i.1 2) p)
          refine G_icmp_ne C 50 37 dX11_knownToOthers_34 rfl rfl (fun c34 => ?_) (fun c34 => ?_)
          ·
            refine G_iconst (v := 0) C 51 dX11_knownToOthers_50 rfl rfl ?_
            refine G_ior C 52 dX11_knownToOthers_51 rfl (fun x51 ex51 => ?_)
            refine G_istore_n (i := 2) (L' := [some (.ref (e_ad E 0)), some (.int x), some (.int x51), some (.int y)]) C 53 dX11_knownToOthers_52 rfl rfl (Nat.le_of_ble_eq_true rfl) rfl rfl ?_
            refine G_iinc (w := 1) C 56 dX11_knownToOthers_53 rfl rfl rfl rfl (fun x53 ex53 => ?_)
            have Nx53 : x53 = nI (k + 1) := g_addN ex53 Ey rfl
            show GW SM E _ 56 [some (.ref (e_ad E 0)), some (.int x), some (.int x51), some (.int x53)] [] s
            refine G_goto C 4 dX11_knownToOthers_56 rfl ?_
            exact ih4 (k + 1) x51 x53  (g_cn (a := (k + 1)) Nx53 (by first | rfl | omega | (simp only [List.length_cons, List.length_drop]; done) | (simp only [List.length_cons, List.length_drop]; omega))) (by omega) (by rw [x_bes, if_neg n15, if_neg (by rw [← Sx25, ← Sx33]; exact c34), ex51, y_or0, ha]) (by omega)
          ·
            refine G_aload_n (i := 0) C 38 dX11_knownToOthers_37 rfl rfl rfl ?_
            refine X11_16g C 41 dX11_knownToOthers_38 rfl ?_
            refine G_iconst (v := 4) C 42 dX11_knownToOthers_41 rfl rfl ?_
            refine G_iload_n (i := 3) C 43 dX11_knownToOthers_42 rfl rfl rfl ?_
            refine G_imul C 44 dX11_knownToOthers_43 rfl (fun x43 ex43 => ?_)
            have Nx43 : x43 = nI (4 * k) := g_mulN ex43 rfl Ey
            refine G_iconst (v := 2) C 45 dX11_knownToOthers_44 rfl rfl ?_
            refine G_iadd C 46 dX11_knownToOthers_45 rfl (fun x45 ex45 => ?_)
            have Nx45 : x45 = nI ((4 * k) + 2) := g_addN ex45 Nx43 rfl
            refine G_iald (n := 24) C 47 (by decide) (eMk (by decide) _ _ _) (((4 * k) + 2)) Nx45 (by omega) (by decide) dX11_knownToOthers_46 rfl (fun x46 ex46 => ?_)
            have Sx46 : x46 = P 4 k := ex46.trans (congrFun (congrFun i.1 4) k)
            obtain ⟨mx46, hmx46, emx46⟩ := (mI_p i (p := k) (by omega)).2.2
            refine G_goto C 51 dX11_knownToOthers_47 rfl ?_
            refine G_ior C 52 dX11_knownToOthers_51 rfl (fun x51 ex51 => ?_)
            refine G_istore_n (i := 2) (L' := [some (.ref (e_ad E 0)), some (.int x), some (.int x51), some (.int y)]) C 53 dX11_knownToOthers_52 rfl rfl (Nat.le_of_ble_eq_true rfl) rfl rfl ?_
            refine G_iinc (w := 1) C 56 dX11_knownToOthers_53 rfl rfl rfl rfl (fun x53 ex53 => ?_)
            have Nx53 : x53 = nI (k + 1) := g_addN ex53 Ey rfl
            show GW SM E _ 56 [some (.ref (e_ad E 0)), some (.int x), some (.int x51), some (.int x53)] [] s
            refine G_goto C 4 dX11_knownToOthers_56 rfl ?_
            exact ih4 (k + 1) x51 x53  (g_cn (a := (k + 1)) Nx53 (by first | rfl | omega | (simp only [List.length_cons, List.length_drop]; done) | (simp only [List.length_cons, List.length_drop]; omega))) (by omega) (by rw [x_bes, if_neg n15, if_pos (by rw [← Sx25, ← Sx33]; exact c34), ex51, Sx46, ha]) (by omega)
  exact L4 (n + 1) 0 0 0  (g_cn (a := 0) rfl (by first | rfl | omega)) (by omega) (rfl) (by omega)
theorem dX11_knownAll_0 : decode cX11_knownAll 0 = .ok (.iconst 0, 1) := by decide +kernel
theorem dX11_knownAll_1 : decode cX11_knownAll 1 = .ok (.istore_n 1, 1) := by decide +kernel
theorem dX11_knownAll_2 : decode cX11_knownAll 2 = .ok (.iconst 0, 1) := by decide +kernel
theorem dX11_knownAll_3 : decode cX11_knownAll 3 = .ok (.istore_n 2, 1) := by decide +kernel
theorem dX11_knownAll_4 : decode cX11_knownAll 4 = .ok (.iload_n 2, 1) := by decide +kernel
theorem dX11_knownAll_5 : decode cX11_knownAll 5 = .ok (.aload_n 0, 1) := by decide +kernel
theorem dX11_knownAll_6 : decode cX11_knownAll 6 = .ok (.getfield 75, 3) := by decide +kernel
theorem dX11_knownAll_9 : decode cX11_knownAll 9 = .ok (.if_icmp .ge 25, 3) := by decide +kernel
theorem dX11_knownAll_12 : decode cX11_knownAll 12 = .ok (.iload_n 1, 1) := by decide +kernel
theorem dX11_knownAll_13 : decode cX11_knownAll 13 = .ok (.aload_n 0, 1) := by decide +kernel
theorem dX11_knownAll_14 : decode cX11_knownAll 14 = .ok (.getfield 16, 3) := by decide +kernel
theorem dX11_knownAll_17 : decode cX11_knownAll 17 = .ok (.iconst 4, 1) := by decide +kernel
theorem dX11_knownAll_18 : decode cX11_knownAll 18 = .ok (.iload_n 2, 1) := by decide +kernel
theorem dX11_knownAll_19 : decode cX11_knownAll 19 = .ok (.imul, 1) := by decide +kernel
theorem dX11_knownAll_20 : decode cX11_knownAll 20 = .ok (.iconst 2, 1) := by decide +kernel
theorem dX11_knownAll_21 : decode cX11_knownAll 21 = .ok (.iadd, 1) := by decide +kernel
theorem dX11_knownAll_22 : decode cX11_knownAll 22 = .ok (.iaload, 1) := by decide +kernel
theorem dX11_knownAll_23 : decode cX11_knownAll 23 = .ok (.invokestatic 82, 3) := by decide +kernel
theorem dX11_knownAll_26 : decode cX11_knownAll 26 = .ok (.iadd, 1) := by decide +kernel
theorem dX11_knownAll_27 : decode cX11_knownAll 27 = .ok (.istore_n 1, 1) := by decide +kernel
theorem dX11_knownAll_28 : decode cX11_knownAll 28 = .ok (.iinc 2 1, 3) := by decide +kernel
theorem dX11_knownAll_31 : decode cX11_knownAll 31 = .ok (.goto (-27), 3) := by decide +kernel
theorem dX11_knownAll_34 : decode cX11_knownAll 34 = .ok (.iload_n 1, 1) := by decide +kernel
theorem dX11_knownAll_35 : decode cX11_knownAll 35 = .ok (.ireturn, 1) := by decide +kernel
set_option maxHeartbeats 4000000 in
set_option maxRecDepth 100000 in
theorem c_X11_knownAll (d : Nat) (TX : gTX) (nT n l : Nat) (P s : gS) (hI : mI TX nT n l P s) : gMt SM yX11_knownAll cX11_knownAll 3 (some .int) (d + 2) (fun ad => [.ref (ad 0)]) s (gQi SM (fun r s' => s' = s ∧ r = x_kt P n)) := by
  have hn6 : n ≤ 6 := hI.2.1.2.1
  have hl6 : l < 6 := mI_l6 hI
  refine gMt_of SM_ok (by decide +kernel) (fun ad => [some (.ref (ad 0)), none, none]) (fun _ => rfl) (fun _ => rfl) (fun _ => Nat.le_of_ble_eq_true rfl) (fun E C0 => ?_)
  have C : gCx SM E RX11 cX11_knownAll 3 (some .int) (d + 2) := C0
  have i : mI TX nT n l P s := hI
  have f : Fr mM s s := Fr.rf
  refine G_iconst (v := 0) C 1 dX11_knownAll_0 rfl rfl ?_
  refine G_istore_n (i := 1) (L' := [some (.ref (e_ad E 0)), some (.int 0), none]) C 2 dX11_knownAll_1 rfl rfl (Nat.le_of_ble_eq_true rfl) rfl rfl ?_
  refine G_iconst (v := 0) C 3 dX11_knownAll_2 rfl rfl ?_
  refine G_istore_n (i := 2) (L' := [some (.ref (e_ad E 0)), some (.int 0), some (.int 0)]) C 4 dX11_knownAll_3 rfl rfl (Nat.le_of_ble_eq_true rfl) rfl rfl ?_
  have L4 : ∀ (f4 : Nat) (k : Nat) (a y : Int32) (Ey : y = nI k) (hk : k ≤ n) (ha : a = x_kt P k), n < k + f4 → GW SM E (gFin SM E (gQi SM (fun r s' => s' = s ∧ r = x_kt P n))) 4 [some (.ref (e_ad E 0)), some (.int a), some (.int y)] [] s := by
    intro f4
    induction f4 with
    | zero =>
      intro k a y Ey hk ha hf4
      exact absurd hf4 (by omega)
    | succ f4 ih4 =>
      intro k a y Ey hk ha hf4
      refine G_iload_n (i := 2) C 5 dX11_knownAll_4 rfl rfl rfl ?_
      refine G_aload_n (i := 0) C 6 dX11_knownAll_5 rfl rfl rfl ?_
      refine X11_75g C 9 dX11_knownAll_6 rfl (fun x6 ex6 => ?_)
      have Sx6 : x6 = nI n := ex6.trans (mI_n i)
      refine G_icmp_ge C 34 12 dX11_knownAll_9 rfl rfl (fun c9 => ?_) (fun c9 => ?_)
      ·
        have n9 : ¬ k < n := fun h => c9 ((g_ltN (a := k) (b := n) (hx := Ey) (hy := Sx6) (by omega) (by omega)).mpr h)
        refine G_iload_n (i := 1) C 35 dX11_knownAll_34 rfl rfl rfl ?_
        exact G_iret C dX11_knownAll_35 (⟨rfl, by rw [ha, show k = n by omega]⟩)
      ·
        have n9 : k < n := (g_ltN (a := k) (b := n) (hx := Ey) (hy := Sx6) (by omega) (by omega)).mp c9
        refine G_iload_n (i := 1) C 13 dX11_knownAll_12 rfl rfl rfl ?_
        refine G_aload_n (i := 0) C 14 dX11_knownAll_13 rfl rfl rfl ?_
        refine X11_16g C 17 dX11_knownAll_14 rfl ?_
        refine G_iconst (v := 4) C 18 dX11_knownAll_17 rfl rfl ?_
        refine G_iload_n (i := 2) C 19 dX11_knownAll_18 rfl rfl rfl ?_
        refine G_imul C 20 dX11_knownAll_19 rfl (fun x19 ex19 => ?_)
        have Nx19 : x19 = nI (4 * k) := g_mulN ex19 rfl Ey
        refine G_iconst (v := 2) C 21 dX11_knownAll_20 rfl rfl ?_
        refine G_iadd C 22 dX11_knownAll_21 rfl (fun x21 ex21 => ?_)
        have Nx21 : x21 = nI ((4 * k) + 2) := g_addN ex21 Nx19 rfl
        refine G_iald (n := 24) C 23 (by decide) (eMk (by decide) _ _ _) (((4 * k) + 2)) Nx21 (by omega) (by decide) dX11_knownAll_22 rfl (fun x22 ex22 => ?_)
        have Sx22 : x22 = P 4 k := ex22.trans (congrFun (congrFun i.1 4) k)
        obtain ⟨mx22, hmx22, emx22⟩ := (mI_p i (p := k) (by omega)).2.2
        refine G_calli 26 (G_runS C Kc_X11_onesOf KS_X11_82 (by omega) (c_X11_onesOf 0 x22 s) rfl rfl (Nat.le_of_ble_eq_true rfl) rfl dX11_knownAll_23) rfl (fun x23 s23 h23 => ?_)
        obtain ⟨es23, h23⟩ := h23
        have es23 := es23.symm
        subst es23
        refine G_iadd C 27 dX11_knownAll_26 rfl (fun x26 ex26 => ?_)
        refine G_istore_n (i := 1) (L' := [some (.ref (e_ad E 0)), some (.int x26), some (.int y)]) C 28 dX11_knownAll_27 rfl rfl (Nat.le_of_ble_eq_true rfl) rfl rfl ?_
        refine G_iinc (w := 1) C 31 dX11_knownAll_28 rfl rfl rfl rfl (fun x28 ex28 => ?_)
        have Nx28 : x28 = nI (k + 1) := g_addN ex28 Ey rfl
        show GW SM E _ 31 [some (.ref (e_ad E 0)), some (.int x26), some (.int x28)] [] s
        refine G_goto C 4 dX11_knownAll_31 rfl ?_
        exact ih4 (k + 1) x26 x28  (g_cn (a := (k + 1)) Nx28 (by first | rfl | omega | (simp only [List.length_cons, List.length_drop]; done) | (simp only [List.length_cons, List.length_drop]; omega))) (by omega) (by rw [x_kt, ex26, h23, Sx22, ha]) (by omega)
  exact L4 (n + 1) 0 0 0  (g_cn (a := 0) rfl (by first | rfl | omega)) (by omega) (rfl) (by omega)
theorem dX11_hourOf_0 : decode cX11_hourOf 0 = .ok (.aload_n 0, 1) := by decide +kernel
theorem dX11_hourOf_1 : decode cX11_hourOf 1 = .ok (.invokevirtual 92, 3) := by decide +kernel
theorem dX11_hourOf_4 : decode cX11_hourOf 4 = .ok (.istore_n 1, 1) := by decide +kernel
theorem dX11_hourOf_5 : decode cX11_hourOf 5 = .ok (.iload_n 1, 1) := by decide +kernel
theorem dX11_hourOf_6 : decode cX11_hourOf 6 = .ok (.iconst (-1), 1) := by decide +kernel
theorem dX11_hourOf_7 : decode cX11_hourOf 7 = .ok (.if_icmp .eq 73, 3) := by decide +kernel
theorem dX11_hourOf_10 : decode cX11_hourOf 10 = .ok (.aload_n 0, 1) := by decide +kernel
theorem dX11_hourOf_11 : decode cX11_hourOf 11 = .ok (.aload_n 0, 1) := by decide +kernel
theorem dX11_hourOf_12 : decode cX11_hourOf 12 = .ok (.getfield 19, 3) := by decide +kernel
theorem dX11_hourOf_15 : decode cX11_hourOf 15 = .ok (.iconst 1, 1) := by decide +kernel
theorem dX11_hourOf_16 : decode cX11_hourOf 16 = .ok (.iaload, 1) := by decide +kernel
theorem dX11_hourOf_17 : decode cX11_hourOf 17 = .ok (.invokevirtual 200, 3) := by decide +kernel
theorem dX11_hourOf_20 : decode cX11_hourOf 20 = .ok (.istore_n 2, 1) := by decide +kernel
theorem dX11_hourOf_21 : decode cX11_hourOf 21 = .ok (.aload_n 0, 1) := by decide +kernel
theorem dX11_hourOf_22 : decode cX11_hourOf 22 = .ok (.getfield 19, 3) := by decide +kernel
theorem dX11_hourOf_25 : decode cX11_hourOf 25 = .ok (.iconst 2, 1) := by decide +kernel
theorem dX11_hourOf_26 : decode cX11_hourOf 26 = .ok (.dup2, 1) := by decide +kernel
theorem dX11_hourOf_27 : decode cX11_hourOf 27 = .ok (.iaload, 1) := by decide +kernel
theorem dX11_hourOf_28 : decode cX11_hourOf 28 = .ok (.iconst 1, 1) := by decide +kernel
theorem dX11_hourOf_29 : decode cX11_hourOf 29 = .ok (.iload_n 1, 1) := by decide +kernel
theorem dX11_hourOf_30 : decode cX11_hourOf 30 = .ok (.ishl, 1) := by decide +kernel
theorem dX11_hourOf_31 : decode cX11_hourOf 31 = .ok (.iconst (-1), 1) := by decide +kernel
theorem dX11_hourOf_32 : decode cX11_hourOf 32 = .ok (.ixor, 1) := by decide +kernel
theorem dX11_hourOf_33 : decode cX11_hourOf 33 = .ok (.iand, 1) := by decide +kernel
theorem dX11_hourOf_34 : decode cX11_hourOf 34 = .ok (.iastore, 1) := by decide +kernel
theorem dX11_hourOf_35 : decode cX11_hourOf 35 = .ok (.iconst 0, 1) := by decide +kernel
theorem dX11_hourOf_36 : decode cX11_hourOf 36 = .ok (.istore_n 3, 1) := by decide +kernel
theorem dX11_hourOf_37 : decode cX11_hourOf 37 = .ok (.iload_n 3, 1) := by decide +kernel
theorem dX11_hourOf_38 : decode cX11_hourOf 38 = .ok (.aload_n 0, 1) := by decide +kernel
theorem dX11_hourOf_39 : decode cX11_hourOf 39 = .ok (.getfield 75, 3) := by decide +kernel
theorem dX11_hourOf_42 : decode cX11_hourOf 42 = .ok (.if_icmp .ge 38, 3) := by decide +kernel
theorem dX11_hourOf_45 : decode cX11_hourOf 45 = .ok (.aload_n 0, 1) := by decide +kernel
theorem dX11_hourOf_46 : decode cX11_hourOf 46 = .ok (.getfield 16, 3) := by decide +kernel
theorem dX11_hourOf_49 : decode cX11_hourOf 49 = .ok (.iconst 4, 1) := by decide +kernel
theorem dX11_hourOf_50 : decode cX11_hourOf 50 = .ok (.iload_n 3, 1) := by decide +kernel
theorem dX11_hourOf_51 : decode cX11_hourOf 51 = .ok (.imul, 1) := by decide +kernel
theorem dX11_hourOf_52 : decode cX11_hourOf 52 = .ok (.iconst 2, 1) := by decide +kernel
theorem dX11_hourOf_53 : decode cX11_hourOf 53 = .ok (.iadd, 1) := by decide +kernel
theorem dX11_hourOf_54 : decode cX11_hourOf 54 = .ok (.dup2, 1) := by decide +kernel
theorem dX11_hourOf_55 : decode cX11_hourOf 55 = .ok (.iaload, 1) := by decide +kernel
theorem dX11_hourOf_56 : decode cX11_hourOf 56 = .ok (.iload_n 2, 1) := by decide +kernel
theorem dX11_hourOf_57 : decode cX11_hourOf 57 = .ok (.iload_n 3, 1) := by decide +kernel
theorem dX11_hourOf_58 : decode cX11_hourOf 58 = .ok (.ishr, 1) := by decide +kernel
theorem dX11_hourOf_59 : decode cX11_hourOf 59 = .ok (.iconst 1, 1) := by decide +kernel
theorem dX11_hourOf_60 : decode cX11_hourOf 60 = .ok (.iand, 1) := by decide +kernel
theorem dX11_hourOf_61 : decode cX11_hourOf 61 = .ok (.iconst 1, 1) := by decide +kernel
theorem dX11_hourOf_62 : decode cX11_hourOf 62 = .ok (.if_icmp .ne 9, 3) := by decide +kernel
theorem dX11_hourOf_65 : decode cX11_hourOf 65 = .ok (.iconst 1, 1) := by decide +kernel
theorem dX11_hourOf_66 : decode cX11_hourOf 66 = .ok (.iload_n 1, 1) := by decide +kernel
theorem dX11_hourOf_67 : decode cX11_hourOf 67 = .ok (.ishl, 1) := by decide +kernel
theorem dX11_hourOf_68 : decode cX11_hourOf 68 = .ok (.goto 4, 3) := by decide +kernel
theorem dX11_hourOf_71 : decode cX11_hourOf 71 = .ok (.iconst 0, 1) := by decide +kernel
theorem dX11_hourOf_72 : decode cX11_hourOf 72 = .ok (.ior, 1) := by decide +kernel
theorem dX11_hourOf_73 : decode cX11_hourOf 73 = .ok (.iastore, 1) := by decide +kernel
theorem dX11_hourOf_74 : decode cX11_hourOf 74 = .ok (.iinc 3 1, 3) := by decide +kernel
theorem dX11_hourOf_77 : decode cX11_hourOf 77 = .ok (.goto (-40), 3) := by decide +kernel
theorem dX11_hourOf_80 : decode cX11_hourOf 80 = .ok (.iconst 0, 1) := by decide +kernel
theorem dX11_hourOf_81 : decode cX11_hourOf 81 = .ok (.istore_n 2, 1) := by decide +kernel
theorem dX11_hourOf_82 : decode cX11_hourOf 82 = .ok (.iload_n 2, 1) := by decide +kernel
theorem dX11_hourOf_83 : decode cX11_hourOf 83 = .ok (.aload_n 0, 1) := by decide +kernel
theorem dX11_hourOf_84 : decode cX11_hourOf 84 = .ok (.getfield 75, 3) := by decide +kernel
theorem dX11_hourOf_87 : decode cX11_hourOf 87 = .ok (.if_icmp .ge 32, 3) := by decide +kernel
theorem dX11_hourOf_90 : decode cX11_hourOf 90 = .ok (.aload_n 0, 1) := by decide +kernel
theorem dX11_hourOf_91 : decode cX11_hourOf 91 = .ok (.getfield 16, 3) := by decide +kernel
theorem dX11_hourOf_94 : decode cX11_hourOf 94 = .ok (.iconst 4, 1) := by decide +kernel
theorem dX11_hourOf_95 : decode cX11_hourOf 95 = .ok (.iload_n 2, 1) := by decide +kernel
theorem dX11_hourOf_96 : decode cX11_hourOf 96 = .ok (.imul, 1) := by decide +kernel
theorem dX11_hourOf_97 : decode cX11_hourOf 97 = .ok (.iconst 2, 1) := by decide +kernel
theorem dX11_hourOf_98 : decode cX11_hourOf 98 = .ok (.iadd, 1) := by decide +kernel
theorem dX11_hourOf_99 : decode cX11_hourOf 99 = .ok (.dup2, 1) := by decide +kernel
theorem dX11_hourOf_100 : decode cX11_hourOf 100 = .ok (.iaload, 1) := by decide +kernel
theorem dX11_hourOf_101 : decode cX11_hourOf 101 = .ok (.aload_n 0, 1) := by decide +kernel
theorem dX11_hourOf_102 : decode cX11_hourOf 102 = .ok (.iload_n 2, 1) := by decide +kernel
theorem dX11_hourOf_103 : decode cX11_hourOf 103 = .ok (.aload_n 0, 1) := by decide +kernel
theorem dX11_hourOf_104 : decode cX11_hourOf 104 = .ok (.iload_n 2, 1) := by decide +kernel
theorem dX11_hourOf_105 : decode cX11_hourOf 105 = .ok (.invokevirtual 206, 3) := by decide +kernel
theorem dX11_hourOf_108 : decode cX11_hourOf 108 = .ok (.invokevirtual 185, 3) := by decide +kernel
theorem dX11_hourOf_111 : decode cX11_hourOf 111 = .ok (.ior, 1) := by decide +kernel
theorem dX11_hourOf_112 : decode cX11_hourOf 112 = .ok (.iastore, 1) := by decide +kernel
theorem dX11_hourOf_113 : decode cX11_hourOf 113 = .ok (.iinc 2 1, 3) := by decide +kernel
theorem dX11_hourOf_116 : decode cX11_hourOf 116 = .ok (.goto (-34), 3) := by decide +kernel
theorem dX11_hourOf_119 : decode cX11_hourOf 119 = .ok (.iconst 0, 1) := by decide +kernel
theorem dX11_hourOf_120 : decode cX11_hourOf 120 = .ok (.istore_n 2, 1) := by decide +kernel
theorem dX11_hourOf_121 : decode cX11_hourOf 121 = .ok (.iload_n 2, 1) := by decide +kernel
theorem dX11_hourOf_122 : decode cX11_hourOf 122 = .ok (.aload_n 0, 1) := by decide +kernel
theorem dX11_hourOf_123 : decode cX11_hourOf 123 = .ok (.getfield 75, 3) := by decide +kernel
theorem dX11_hourOf_126 : decode cX11_hourOf 126 = .ok (.if_icmp .ge 47, 3) := by decide +kernel
theorem dX11_hourOf_129 : decode cX11_hourOf 129 = .ok (.aload_n 0, 1) := by decide +kernel
theorem dX11_hourOf_130 : decode cX11_hourOf 130 = .ok (.getfield 16, 3) := by decide +kernel
theorem dX11_hourOf_133 : decode cX11_hourOf 133 = .ok (.iconst 4, 1) := by decide +kernel
theorem dX11_hourOf_134 : decode cX11_hourOf 134 = .ok (.iload_n 2, 1) := by decide +kernel
theorem dX11_hourOf_135 : decode cX11_hourOf 135 = .ok (.imul, 1) := by decide +kernel
theorem dX11_hourOf_136 : decode cX11_hourOf 136 = .ok (.iaload, 1) := by decide +kernel
theorem dX11_hourOf_137 : decode cX11_hourOf 137 = .ok (.aload_n 0, 1) := by decide +kernel
theorem dX11_hourOf_138 : decode cX11_hourOf 138 = .ok (.iload_n 2, 1) := by decide +kernel
theorem dX11_hourOf_139 : decode cX11_hourOf 139 = .ok (.invokevirtual 191, 3) := by decide +kernel
theorem dX11_hourOf_142 : decode cX11_hourOf 142 = .ok (.iadd, 1) := by decide +kernel
theorem dX11_hourOf_143 : decode cX11_hourOf 143 = .ok (.bipush 9, 2) := by decide +kernel
theorem dX11_hourOf_145 : decode cX11_hourOf 145 = .ok (.irem, 1) := by decide +kernel
theorem dX11_hourOf_146 : decode cX11_hourOf 146 = .ok (.istore_n 3, 1) := by decide +kernel
theorem dX11_hourOf_147 : decode cX11_hourOf 147 = .ok (.aload_n 0, 1) := by decide +kernel
theorem dX11_hourOf_148 : decode cX11_hourOf 148 = .ok (.getfield 16, 3) := by decide +kernel
theorem dX11_hourOf_151 : decode cX11_hourOf 151 = .ok (.iconst 4, 1) := by decide +kernel
theorem dX11_hourOf_152 : decode cX11_hourOf 152 = .ok (.iload_n 2, 1) := by decide +kernel
theorem dX11_hourOf_153 : decode cX11_hourOf 153 = .ok (.imul, 1) := by decide +kernel
theorem dX11_hourOf_154 : decode cX11_hourOf 154 = .ok (.iload_n 3, 1) := by decide +kernel
theorem dX11_hourOf_155 : decode cX11_hourOf 155 = .ok (.ifCond .ge 10, 3) := by decide +kernel
theorem dX11_hourOf_158 : decode cX11_hourOf 158 = .ok (.iload_n 3, 1) := by decide +kernel
theorem dX11_hourOf_159 : decode cX11_hourOf 159 = .ok (.bipush 9, 2) := by decide +kernel
theorem dX11_hourOf_161 : decode cX11_hourOf 161 = .ok (.iadd, 1) := by decide +kernel
theorem dX11_hourOf_162 : decode cX11_hourOf 162 = .ok (.goto 4, 3) := by decide +kernel
theorem dX11_hourOf_165 : decode cX11_hourOf 165 = .ok (.iload_n 3, 1) := by decide +kernel
theorem dX11_hourOf_166 : decode cX11_hourOf 166 = .ok (.iastore, 1) := by decide +kernel
theorem dX11_hourOf_167 : decode cX11_hourOf 167 = .ok (.iinc 2 1, 3) := by decide +kernel
theorem dX11_hourOf_170 : decode cX11_hourOf 170 = .ok (.goto (-49), 3) := by decide +kernel
theorem dX11_hourOf_173 : decode cX11_hourOf 173 = .ok (.aload_n 0, 1) := by decide +kernel
theorem dX11_hourOf_174 : decode cX11_hourOf 174 = .ok (.getfield 19, 3) := by decide +kernel
theorem dX11_hourOf_177 : decode cX11_hourOf 177 = .ok (.iconst 1, 1) := by decide +kernel
theorem dX11_hourOf_178 : decode cX11_hourOf 178 = .ok (.aload_n 0, 1) := by decide +kernel
theorem dX11_hourOf_179 : decode cX11_hourOf 179 = .ok (.getfield 19, 3) := by decide +kernel
theorem dX11_hourOf_182 : decode cX11_hourOf 182 = .ok (.iconst 1, 1) := by decide +kernel
theorem dX11_hourOf_183 : decode cX11_hourOf 183 = .ok (.iaload, 1) := by decide +kernel
theorem dX11_hourOf_184 : decode cX11_hourOf 184 = .ok (.bipush 8, 2) := by decide +kernel
theorem dX11_hourOf_186 : decode cX11_hourOf 186 = .ok (.if_icmp .ne 7, 3) := by decide +kernel
theorem dX11_hourOf_189 : decode cX11_hourOf 189 = .ok (.iconst 0, 1) := by decide +kernel
theorem dX11_hourOf_190 : decode cX11_hourOf 190 = .ok (.goto 11, 3) := by decide +kernel
theorem dX11_hourOf_193 : decode cX11_hourOf 193 = .ok (.aload_n 0, 1) := by decide +kernel
theorem dX11_hourOf_194 : decode cX11_hourOf 194 = .ok (.getfield 19, 3) := by decide +kernel
theorem dX11_hourOf_197 : decode cX11_hourOf 197 = .ok (.iconst 1, 1) := by decide +kernel
theorem dX11_hourOf_198 : decode cX11_hourOf 198 = .ok (.iaload, 1) := by decide +kernel
theorem dX11_hourOf_199 : decode cX11_hourOf 199 = .ok (.iconst 1, 1) := by decide +kernel
theorem dX11_hourOf_200 : decode cX11_hourOf 200 = .ok (.iadd, 1) := by decide +kernel
theorem dX11_hourOf_201 : decode cX11_hourOf 201 = .ok (.iastore, 1) := by decide +kernel
theorem dX11_hourOf_202 : decode cX11_hourOf 202 = .ok (.aload_n 0, 1) := by decide +kernel
theorem dX11_hourOf_203 : decode cX11_hourOf 203 = .ok (.getfield 19, 3) := by decide +kernel
theorem dX11_hourOf_206 : decode cX11_hourOf 206 = .ok (.iconst 0, 1) := by decide +kernel
theorem dX11_hourOf_207 : decode cX11_hourOf 207 = .ok (.dup2, 1) := by decide +kernel
theorem dX11_hourOf_208 : decode cX11_hourOf 208 = .ok (.iaload, 1) := by decide +kernel
theorem dX11_hourOf_209 : decode cX11_hourOf 209 = .ok (.iconst 1, 1) := by decide +kernel
theorem dX11_hourOf_210 : decode cX11_hourOf 210 = .ok (.iadd, 1) := by decide +kernel
theorem dX11_hourOf_211 : decode cX11_hourOf 211 = .ok (.iastore, 1) := by decide +kernel
theorem dX11_hourOf_212 : decode cX11_hourOf 212 = .ok (.iload_n 1, 1) := by decide +kernel
theorem dX11_hourOf_213 : decode cX11_hourOf 213 = .ok (.ireturn, 1) := by decide +kernel
set_option maxHeartbeats 4000000 in
set_option maxRecDepth 100000 in
theorem c_X11_hourOf (d : Nat) (TX : gTX) (nT n l : Nat) (P s : gS) (hI : mI TX nT n l P s) : gMt SM yX11_hourOf cX11_hourOf 4 (some .int) (d + 9) (fun ad => [.ref (ad 0)]) s (gQi SM (fun r s' => Fr mH s s' ∧ mI TX nT n l (x_pass TX P) s' ∧ r = x_crd TX P)) := by
  have hn6 : n ≤ 6 := hI.2.1.2.1
  have hl6 : l < 6 := mI_l6 hI
  refine gMt_of SM_ok (by decide +kernel) (fun ad => [some (.ref (ad 0)), none, none, none]) (fun _ => rfl) (fun _ => rfl) (fun _ => Nat.le_of_ble_eq_true rfl) (fun E C0 => ?_)
  have C : gCx SM E RX11 cX11_hourOf 4 (some .int) (d + 9) := C0
  have i : mI TX nT n l P s := hI
  have f : Fr mH s s := Fr.rf
  refine G_aload_n (i := 0) C 1 dX11_hourOf_0 rfl rfl rfl ?_
  refine G_calli 4 (G_runV C Kc_X11_criedNow KV_X11_92 (by omega) (by decide) (eM _ _ _) rfl (c_X11_criedNow 0 TX nT n l P s i) rfl rfl rfl (Nat.le_of_ble_eq_true rfl) rfl dX11_hourOf_1) rfl (fun x1 s1 h1 => ?_)
  have i_1 : mI TX nT n l P s1 := mI_fr i (h1.1)
  have f_1 : Fr mH s s1 := Fr.tr f (Fr.H (h1.1))
  have T4 : x1 = x_crd TX P := h1.2
  refine G_istore_n (i := 1) (L' := [some (.ref (e_ad E 0)), some (.int x1), none, none]) C 5 dX11_hourOf_4 rfl rfl (Nat.le_of_ble_eq_true rfl) rfl rfl ?_
  refine G_iload_n (i := 1) C 6 dX11_hourOf_5 rfl rfl rfl ?_
  refine G_iconst (v := (-1)) C 7 dX11_hourOf_6 rfl rfl ?_
  refine G_icmp_eq C 80 10 dX11_hourOf_7 rfl rfl (fun c7 => ?_) (fun c7 => ?_)
  ·
    have i2 : mI TX nT n l (x_pcry TX P) s1 := by unfold x_pcry; rw [if_pos (by rw [← T4]; exact c7)]; exact i_1
    refine G_iconst (v := 0) C 81 dX11_hourOf_80 rfl rfl ?_
    refine G_istore_n (i := 2) (L' := [some (.ref (e_ad E 0)), some (.int x1), some (.int 0), none]) C 82 dX11_hourOf_81 rfl rfl (Nat.le_of_ble_eq_true rfl) rfl rfl ?_
    have L82 : ∀ (f82 : Nat) (k : Nat) (y : Int32) (sl82 : gS) (Ey : y = nI k) (hk : k ≤ n) (il82 : mI TX nT n l (x_gabN TX (x_pcry TX P) n k) sl82) (fl82 : Fr mH s sl82), n < k + f82 → GW SM E (gFin SM E (gQi SM (fun r s' => Fr mH s s' ∧ mI TX nT n l (x_pass TX P) s' ∧ r = x_crd TX P))) 82 [some (.ref (e_ad E 0)), some (.int x1), some (.int y), none] [] sl82 := by
      intro f82
      induction f82 with
      | zero =>
        intro k y sl82 Ey hk il82 fl82 hf82
        exact absurd hf82 (by omega)
      | succ f82 ih82 =>
        intro k y sl82 Ey hk il82 fl82 hf82
        refine G_iload_n (i := 2) C 83 dX11_hourOf_82 rfl rfl rfl ?_
        refine G_aload_n (i := 0) C 84 dX11_hourOf_83 rfl rfl rfl ?_
        refine X11_75g C 87 dX11_hourOf_84 rfl (fun x84 ex84 => ?_)
        have Sx84 : x84 = nI n := ex84.trans (mI_n il82)
        refine G_icmp_ge C 119 90 dX11_hourOf_87 rfl rfl (fun c87 => ?_) (fun c87 => ?_)
        ·
          have n87 : ¬ k < n := fun h => c87 ((g_ltN (a := k) (b := n) (hx := Ey) (hy := Sx84) (by omega) (by omega)).mpr h)
          have i4 : mI TX nT n l (x_pgab TX P) sl82 := by unfold x_pgab; rw [x_nOf hI.2.1.1 hn6]; have e : k = n := (by omega); subst e; exact il82
          refine G_iconst (v := 0) C 120 dX11_hourOf_119 rfl rfl ?_
          refine G_istore_n (i := 2) (L' := [some (.ref (e_ad E 0)), some (.int x1), some (.int 0), none]) C 121 dX11_hourOf_120 rfl rfl (Nat.le_of_ble_eq_true rfl) rfl rfl ?_
          have L121 : ∀ (f121 : Nat) (k : Nat) (y : Int32) (sl121 : gS) (Ey : y = nI k) (hk : k ≤ n) (il121 : mI TX nT n l (x_movN TX (x_pgab TX P) k) sl121) (fl121 : Fr mH s sl121), n < k + f121 → GW SM E (gFin SM E (gQi SM (fun r s' => Fr mH s s' ∧ mI TX nT n l (x_pass TX P) s' ∧ r = x_crd TX P))) 121 [some (.ref (e_ad E 0)), some (.int x1), some (.int y), none] [] sl121 := by
            intro f121
            induction f121 with
            | zero =>
              intro k y sl121 Ey hk il121 fl121 hf121
              exact absurd hf121 (by omega)
            | succ f121 ih121 =>
              intro k y sl121 Ey hk il121 fl121 hf121
              refine G_iload_n (i := 2) C 122 dX11_hourOf_121 rfl rfl rfl ?_
              refine G_aload_n (i := 0) C 123 dX11_hourOf_122 rfl rfl rfl ?_
              refine X11_75g C 126 dX11_hourOf_123 rfl (fun x123 ex123 => ?_)
              have Sx123 : x123 = nI n := ex123.trans (mI_n il121)
              refine G_icmp_ge C 173 129 dX11_hourOf_126 rfl rfl (fun c126 => ?_) (fun c126 => ?_)
              ·
                have n126 : ¬ k < n := fun h => c126 ((g_ltN (a := k) (b := n) (hx := Ey) (hy := Sx123) (by omega) (by omega)).mpr h)
                have i3 : mI TX nT n l (x_pmov TX P) sl121 := by unfold x_pmov; rw [x_nOf hI.2.1.1 hn6]; have e : k = n := (by omega); subst e; exact il121
                refine G_aload_n (i := 0) C 174 dX11_hourOf_173 rfl rfl rfl ?_
                refine X11_19g C 177 dX11_hourOf_174 rfl ?_
                refine G_iconst (v := 1) C 178 dX11_hourOf_177 rfl rfl ?_
                refine G_aload_n (i := 0) C 179 dX11_hourOf_178 rfl rfl rfl ?_
                refine X11_19g C 182 dX11_hourOf_179 rfl ?_
                refine G_iconst (v := 1) C 183 dX11_hourOf_182 rfl rfl ?_
                refine G_iald (n := 13) C 184 (by decide) (eMk (by decide) _ _ _) (1) rfl (by omega) (by decide) dX11_hourOf_183 rfl (fun x183 ex183 => ?_)
                have Sx183 : x183 = (x_pmov TX P) 0 1 := ex183.trans (mI_v i3 0 1)
                refine G_bipush (v := 8) C 186 dX11_hourOf_184 rfl rfl ?_
                refine G_icmp_ne C 193 189 dX11_hourOf_186 rfl rfl (fun c186 => ?_) (fun c186 => ?_)
                ·
                  refine G_aload_n (i := 0) C 194 dX11_hourOf_193 rfl rfl rfl ?_
                  refine X11_19g C 197 dX11_hourOf_194 rfl ?_
                  refine G_iconst (v := 1) C 198 dX11_hourOf_197 rfl rfl ?_
                  refine G_iald (n := 13) C 199 (by decide) (eMk (by decide) _ _ _) (1) rfl (by omega) (by decide) dX11_hourOf_198 rfl (fun x198 ex198 => ?_)
                  have Sx198 : x198 = (x_pmov TX P) 0 1 := ex198.trans (mI_v i3 0 1)
                  refine G_iconst (v := 1) C 200 dX11_hourOf_199 rfl rfl ?_
                  refine G_iadd C 201 dX11_hourOf_200 rfl (fun x200 ex200 => ?_)
                  refine G_iast (n := 13) C 202 (by decide) (fun σ => eMk (by decide) _ _ σ) (1) rfl (by omega) (by decide) (Nat.le_refl _) dX11_hourOf_201 rfl (fun s201 es201 => ?_)
                  have i_2 : mI TX nT n l (x_pcor (x_pmov TX P)) s201 := by
                          obtain ⟨q, hq, eq⟩ := i3.2.1.2.2.2.2.2.2.2.2
                          have yc := y_cor q hq
                          have v0 : x200 = x_pmov TX P 0 1 + 1 - (x_pmov TX P 0 1 + 1) / 9 * 9 := by
                            rw [eq, ← yc, if_neg (by rw [← eq, ← Sx183]; exact c186), ← eq, ex200, Sx198]
                          have z := mI_corner i3 es201 (by rw [v0, eq, nI_1, show (9 : Int32) = nI 9 from rfl, pk_rem (by omega) (by omega) (by omega)]; exact ⟨_, Nat.mod_lt _ (by decide), rfl⟩)
                          rw [v0] at z
                          exact z
                  have f_2 : Fr mH s s201 := Fr.tr fl121 (Fr.up es201 (by unfold mH; omega))
                  refine G_aload_n (i := 0) C 203 dX11_hourOf_202 rfl rfl rfl ?_
                  refine X11_19g C 206 dX11_hourOf_203 rfl ?_
                  refine G_iconst (v := 0) C 207 dX11_hourOf_206 rfl rfl ?_
                  refine G_dup2 C 208 dX11_hourOf_207 rfl rfl rfl ?_
                  refine G_iald (n := 13) C 209 (by decide) (eMk (by decide) _ _ _) (0) rfl (by omega) (by decide) dX11_hourOf_208 rfl (fun x208 ex208 => ?_)
                  have Sx208 : x208 = (x_pcor (x_pmov TX P)) 0 0 := ex208.trans (mI_v i_2 0 0)
                  refine G_iconst (v := 1) C 210 dX11_hourOf_209 rfl rfl ?_
                  refine G_iadd C 211 dX11_hourOf_210 rfl (fun x210 ex210 => ?_)
                  refine G_iast (n := 13) C 212 (by decide) (fun σ => eMk (by decide) _ _ σ) (0) rfl (by omega) (by decide) (Nat.le_refl _) dX11_hourOf_211 rfl (fun s211 es211 => ?_)
                  have i_3 : mI TX nT n l (x_pass TX P) s211 := by have z := mI_hour i_2 es211; rw [ex210, Sx208] at z; exact z
                  have f_3 : Fr mH s s211 := Fr.tr f_2 (Fr.up es211 (by unfold mH; omega))
                  refine G_iload_n (i := 1) C 213 dX11_hourOf_212 rfl rfl rfl ?_
                  exact G_iret C dX11_hourOf_213 (⟨f_3, i_3, T4⟩)
                ·
                  refine G_iconst (v := 0) C 190 dX11_hourOf_189 rfl rfl ?_
                  refine G_goto C 201 dX11_hourOf_190 rfl ?_
                  refine G_iast (n := 13) C 202 (by decide) (fun σ => eMk (by decide) _ _ σ) (1) rfl (by omega) (by decide) (Nat.le_refl _) dX11_hourOf_201 rfl (fun s201 es201 => ?_)
                  have i_2 : mI TX nT n l (x_pcor (x_pmov TX P)) s201 := by
                          obtain ⟨q, hq, eq⟩ := i3.2.1.2.2.2.2.2.2.2.2
                          have yc := y_cor q hq
                          have v0 : 0 = x_pmov TX P 0 1 + 1 - (x_pmov TX P 0 1 + 1) / 9 * 9 := by
                            rw [eq, ← yc, if_pos (by rw [← eq, ← Sx183]; exact c186)]
                          have z := mI_corner i3 es201 (by rw [v0, eq, nI_1, show (9 : Int32) = nI 9 from rfl, pk_rem (by omega) (by omega) (by omega)]; exact ⟨_, Nat.mod_lt _ (by decide), rfl⟩)
                          rw [v0] at z
                          exact z
                  have f_2 : Fr mH s s201 := Fr.tr fl121 (Fr.up es201 (by unfold mH; omega))
                  refine G_aload_n (i := 0) C 203 dX11_hourOf_202 rfl rfl rfl ?_
                  refine X11_19g C 206 dX11_hourOf_203 rfl ?_
                  refine G_iconst (v := 0) C 207 dX11_hourOf_206 rfl rfl ?_
                  refine G_dup2 C 208 dX11_hourOf_207 rfl rfl rfl ?_
                  refine G_iald (n := 13) C 209 (by decide) (eMk (by decide) _ _ _) (0) rfl (by omega) (by decide) dX11_hourOf_208 rfl (fun x208 ex208 => ?_)
                  have Sx208 : x208 = (x_pcor (x_pmov TX P)) 0 0 := ex208.trans (mI_v i_2 0 0)
                  refine G_iconst (v := 1) C 210 dX11_hourOf_209 rfl rfl ?_
                  refine G_iadd C 211 dX11_hourOf_210 rfl (fun x210 ex210 => ?_)
                  refine G_iast (n := 13) C 212 (by decide) (fun σ => eMk (by decide) _ _ σ) (0) rfl (by omega) (by decide) (Nat.le_refl _) dX11_hourOf_211 rfl (fun s211 es211 => ?_)
                  have i_3 : mI TX nT n l (x_pass TX P) s211 := by have z := mI_hour i_2 es211; rw [ex210, Sx208] at z; exact z
                  have f_3 : Fr mH s s211 := Fr.tr f_2 (Fr.up es211 (by unfold mH; omega))
                  refine G_iload_n (i := 1) C 213 dX11_hourOf_212 rfl rfl rfl ?_
                  exact G_iret C dX11_hourOf_213 (⟨f_3, i_3, T4⟩)
              ·
                have n126 : k < n := (g_ltN (a := k) (b := n) (hx := Ey) (hy := Sx123) (by omega) (by omega)).mp c126
                refine G_aload_n (i := 0) C 130 dX11_hourOf_129 rfl rfl rfl ?_
                refine X11_16g C 133 dX11_hourOf_130 rfl ?_
                refine G_iconst (v := 4) C 134 dX11_hourOf_133 rfl rfl ?_
                refine G_iload_n (i := 2) C 135 dX11_hourOf_134 rfl rfl rfl ?_
                refine G_imul C 136 dX11_hourOf_135 rfl (fun x135 ex135 => ?_)
                have Nx135 : x135 = nI (4 * k) := g_mulN ex135 rfl Ey
                refine G_iald (n := 24) C 137 (by decide) (eMk (by decide) _ _ _) ((4 * k)) Nx135 (by omega) (by decide) dX11_hourOf_136 rfl (fun x136 ex136 => ?_)
                have Sx136 : x136 = (x_movN TX (x_pgab TX P) k) 2 k := ex136.trans (congrFun (congrFun il121.1 2) k)
                refine G_aload_n (i := 0) C 138 dX11_hourOf_137 rfl rfl rfl ?_
                refine G_iload_n (i := 2) C 139 dX11_hourOf_138 rfl rfl rfl ?_
                refine G_calli 142 (G_runV C Kc_X11_goesOf KV_X11_191 (by omega) (by decide) (eM _ _ _) rfl (c_X11_goesOf 0 TX nT n l (x_movN TX (x_pgab TX P) k) sl121 il121 y k Ey (by omega)) rfl rfl rfl (Nat.le_of_ble_eq_true rfl) rfl dX11_hourOf_139) rfl (fun x139 s139 h139 => ?_)
                have i_2 : mI TX nT n l (x_movN TX (x_pgab TX P) k) s139 := mI_fr il121 (h139.1)
                have f_2 : Fr mH s s139 := Fr.tr fl121 (Fr.H (h139.1))
                refine G_iadd C 143 dX11_hourOf_142 rfl (fun x142 ex142 => ?_)
                refine G_bipush (v := 9) C 145 dX11_hourOf_143 rfl rfl ?_
                refine G_irem C 146 dX11_hourOf_145 rfl (by decide) (fun x145 ex145 => ?_)
                refine G_istore_n (i := 3) (L' := [some (.ref (e_ad E 0)), some (.int x1), some (.int y), some (.int x145)]) C 147 dX11_hourOf_146 rfl rfl (Nat.le_of_ble_eq_true rfl) rfl rfl ?_
                refine G_aload_n (i := 0) C 148 dX11_hourOf_147 rfl rfl rfl ?_
                refine X11_16g C 151 dX11_hourOf_148 rfl ?_
                refine G_iconst (v := 4) C 152 dX11_hourOf_151 rfl rfl ?_
                refine G_iload_n (i := 2) C 153 dX11_hourOf_152 rfl rfl rfl ?_
                refine G_imul C 154 dX11_hourOf_153 rfl (fun x153 ex153 => ?_)
                have Nx153 : x153 = nI (4 * k) := g_mulN ex153 rfl Ey
                refine G_iload_n (i := 3) C 155 dX11_hourOf_154 rfl rfl rfl ?_
                refine G_if_ge C 165 158 dX11_hourOf_155 rfl rfl (fun c155 => ?_) (fun c155 => ?_)
                ·
                  refine G_iload_n (i := 3) C 166 dX11_hourOf_165 rfl rfl rfl ?_
                  refine G_iast (n := 24) C 167 (by decide) (fun σ => eMk (by decide) _ _ σ) ((4 * k)) Nx153 (by omega) (by decide) (Nat.le_refl _) dX11_hourOf_166 rfl (fun s166 es166 => ?_)
                  have i_3 : mI TX nT n l (x_movN TX (x_pgab TX P) (k + 1)) s166 := by have z := mI_up2 i_2 es166; rw [ex145, ex142, Sx136, h139.2, y_fmP (by rw [← h139.2, ← Sx136, ← ex142, ← ex145]; exact c155)] at z; exact z
                  have f_3 : Fr mH s s166 := Fr.tr f_2 (Fr.up es166 (by unfold mH; omega))
                  refine G_iinc (w := 1) C 170 dX11_hourOf_167 rfl rfl rfl rfl (fun x167 ex167 => ?_)
                  have Nx167 : x167 = nI (k + 1) := g_addN ex167 Ey rfl
                  show GW SM E _ 170 [some (.ref (e_ad E 0)), some (.int x1), some (.int x167), some (.int x145)] [] s166
                  refine G_goto C 121 dX11_hourOf_170 rfl ?_
                  refine G_drop (L' := [some (.ref (e_ad E 0)), some (.int x1), some (.int x167), none]) ⟨rfl, rfl, rfl, trivial⟩ ?_
                  exact ih121 (k + 1) x167 s166 (g_cn (a := (k + 1)) Nx167 (by first | rfl | omega | (simp only [List.length_cons, List.length_drop]; done) | (simp only [List.length_cons, List.length_drop]; omega))) (by omega) (i_3) f_3 (by omega)
                ·
                  refine G_iload_n (i := 3) C 159 dX11_hourOf_158 rfl rfl rfl ?_
                  refine G_bipush (v := 9) C 161 dX11_hourOf_159 rfl rfl ?_
                  refine G_iadd C 162 dX11_hourOf_161 rfl (fun x161 ex161 => ?_)
                  refine G_goto C 166 dX11_hourOf_162 rfl ?_
                  refine G_iast (n := 24) C 167 (by decide) (fun σ => eMk (by decide) _ _ σ) ((4 * k)) Nx153 (by omega) (by decide) (Nat.le_refl _) dX11_hourOf_166 rfl (fun s166 es166 => ?_)
                  have i_3 : mI TX nT n l (x_movN TX (x_pgab TX P) (k + 1)) s166 := by have z := mI_up2 i_2 es166; rw [ex161, ex145, ex142, Sx136, h139.2, y_fmN (by rw [← h139.2, ← Sx136, ← ex142, ← ex145]; exact c155)] at z; exact z
                  have f_3 : Fr mH s s166 := Fr.tr f_2 (Fr.up es166 (by unfold mH; omega))
                  refine G_iinc (w := 1) C 170 dX11_hourOf_167 rfl rfl rfl rfl (fun x167 ex167 => ?_)
                  have Nx167 : x167 = nI (k + 1) := g_addN ex167 Ey rfl
                  show GW SM E _ 170 [some (.ref (e_ad E 0)), some (.int x1), some (.int x167), some (.int x145)] [] s166
                  refine G_goto C 121 dX11_hourOf_170 rfl ?_
                  refine G_drop (L' := [some (.ref (e_ad E 0)), some (.int x1), some (.int x167), none]) ⟨rfl, rfl, rfl, trivial⟩ ?_
                  exact ih121 (k + 1) x167 s166 (g_cn (a := (k + 1)) Nx167 (by first | rfl | omega | (simp only [List.length_cons, List.length_drop]; done) | (simp only [List.length_cons, List.length_drop]; omega))) (by omega) (i_3) f_3 (by omega)
          exact L121 (n + 1) 0 0 sl82 (g_cn (a := 0) rfl (by first | rfl | omega)) (by omega) (i4) fl82 (by omega)
        ·
          have n87 : k < n := (g_ltN (a := k) (b := n) (hx := Ey) (hy := Sx84) (by omega) (by omega)).mp c87
          refine G_aload_n (i := 0) C 91 dX11_hourOf_90 rfl rfl rfl ?_
          refine X11_16g C 94 dX11_hourOf_91 rfl ?_
          refine G_iconst (v := 4) C 95 dX11_hourOf_94 rfl rfl ?_
          refine G_iload_n (i := 2) C 96 dX11_hourOf_95 rfl rfl rfl ?_
          refine G_imul C 97 dX11_hourOf_96 rfl (fun x96 ex96 => ?_)
          have Nx96 : x96 = nI (4 * k) := g_mulN ex96 rfl Ey
          refine G_iconst (v := 2) C 98 dX11_hourOf_97 rfl rfl ?_
          refine G_iadd C 99 dX11_hourOf_98 rfl (fun x98 ex98 => ?_)
          have Nx98 : x98 = nI ((4 * k) + 2) := g_addN ex98 Nx96 rfl
          refine G_dup2 C 100 dX11_hourOf_99 rfl rfl rfl ?_
          refine G_iald (n := 24) C 101 (by decide) (eMk (by decide) _ _ _) (((4 * k) + 2)) Nx98 (by omega) (by decide) dX11_hourOf_100 rfl (fun x100 ex100 => ?_)
          have Sx100 : x100 = (x_gabN TX (x_pcry TX P) n k) 4 k := ex100.trans (congrFun (congrFun il82.1 4) k)
          obtain ⟨mx100, hmx100, emx100⟩ := (mI_p il82 (p := k) (by omega)).2.2
          refine G_aload_n (i := 0) C 102 dX11_hourOf_101 rfl rfl rfl ?_
          refine G_iload_n (i := 2) C 103 dX11_hourOf_102 rfl rfl rfl ?_
          refine G_aload_n (i := 0) C 104 dX11_hourOf_103 rfl rfl rfl ?_
          refine G_iload_n (i := 2) C 105 dX11_hourOf_104 rfl rfl rfl ?_
          refine G_calli 108 (G_runV C Kc_X11_knownToOthers KV_X11_206 (by omega) (by decide) (eM _ _ _) rfl (c_X11_knownToOthers 0 TX nT n l (x_gabN TX (x_pcry TX P) n k) sl82 il82 y k Ey (by omega)) rfl rfl rfl (Nat.le_of_ble_eq_true rfl) rfl dX11_hourOf_105) rfl (fun x105 s105 h105 => ?_)
          obtain ⟨es105, h105⟩ := h105
          have es105 := es105.symm
          subst es105
          refine G_calli 111 (G_runV C Kc_X11_wishSet KV_X11_185 (by omega) (by decide) (eM _ _ _) rfl (c_X11_wishSet 0 TX nT n l (x_gabN TX (x_pcry TX P) n k) sl82 il82 y k Ey (by omega) x105) rfl rfl rfl (Nat.le_of_ble_eq_true rfl) rfl dX11_hourOf_108) rfl (fun x108 s108 h108 => ?_)
          have i_2 : mI TX nT n l (x_gabN TX (x_pcry TX P) n k) s108 := mI_fr il82 (h108.1)
          have f_2 : Fr mH s s108 := Fr.tr fl82 (Fr.H (h108.1))
          refine G_ior C 112 dX11_hourOf_111 rfl (fun x111 ex111 => ?_)
          refine G_iast (n := 24) C 113 (by decide) (fun σ => eMk (by decide) _ _ σ) (((4 * k) + 2)) Nx98 (by omega) (by decide) (Nat.le_refl _) dX11_hourOf_112 rfl (fun s112 es112 => ?_)
          have i_3 : mI TX nT n l (x_gabN TX (x_pcry TX P) n (k + 1)) s112 := by have z := mI_up4 i_2 es112 (by rw [ex111, Sx100, h108.2]; exact bt_or1024 ⟨mx100, hmx100, emx100⟩ (x_wset1024 _ _ _ _ 10 (by omega))); rw [ex111, Sx100, h108.2, h105] at z; exact z
          have f_3 : Fr mH s s112 := Fr.tr f_2 (Fr.up es112 (by unfold mH; omega))
          refine G_iinc (w := 1) C 116 dX11_hourOf_113 rfl rfl rfl rfl (fun x113 ex113 => ?_)
          have Nx113 : x113 = nI (k + 1) := g_addN ex113 Ey rfl
          show GW SM E _ 116 [some (.ref (e_ad E 0)), some (.int x1), some (.int x113), none] [] s112
          refine G_goto C 82 dX11_hourOf_116 rfl ?_
          exact ih82 (k + 1) x113 s112 (g_cn (a := (k + 1)) Nx113 (by first | rfl | omega | (simp only [List.length_cons, List.length_drop]; done) | (simp only [List.length_cons, List.length_drop]; omega))) (by omega) (i_3) f_3 (by omega)
    exact L82 (n + 1) 0 0 s1 (g_cn (a := 0) rfl (by first | rfl | omega)) (by omega) (i2) f_1 (by omega)
  ·
    obtain ⟨t, ht, et⟩ := (x_crd_r TX P).resolve_left (by rw [← T4]; exact c7)
    refine G_aload_n (i := 0) C 11 dX11_hourOf_10 rfl rfl rfl ?_
    refine G_aload_n (i := 0) C 12 dX11_hourOf_11 rfl rfl rfl ?_
    refine X11_19g C 15 dX11_hourOf_12 rfl ?_
    refine G_iconst (v := 1) C 16 dX11_hourOf_15 rfl rfl ?_
    refine G_iald (n := 13) C 17 (by decide) (eMk (by decide) _ _ _) (1) rfl (by omega) (by decide) dX11_hourOf_16 rfl (fun x16 ex16 => ?_)
    have Sx16 : x16 = P 0 1 := ex16.trans (mI_v i_1 0 1)
    refine G_calli 20 (G_runV C Kc_X11_listeners KV_X11_200 (by omega) (by decide) (eM _ _ _) rfl (c_X11_listeners 0 TX nT n l P s1 i_1 x16) rfl rfl rfl (Nat.le_of_ble_eq_true rfl) rfl dX11_hourOf_17) rfl (fun x17 s17 h17 => ?_)
    obtain ⟨es17, h17⟩ := h17
    have es17 := es17.symm
    subst es17
    refine G_istore_n (i := 2) (L' := [some (.ref (e_ad E 0)), some (.int x1), some (.int x17), none]) C 21 dX11_hourOf_20 rfl rfl (Nat.le_of_ble_eq_true rfl) rfl rfl ?_
    refine G_aload_n (i := 0) C 22 dX11_hourOf_21 rfl rfl rfl ?_
    refine X11_19g C 25 dX11_hourOf_22 rfl ?_
    refine G_iconst (v := 2) C 26 dX11_hourOf_25 rfl rfl ?_
    refine G_dup2 C 27 dX11_hourOf_26 rfl rfl rfl ?_
    refine G_iald (n := 13) C 28 (by decide) (eMk (by decide) _ _ _) (2) rfl (by omega) (by decide) dX11_hourOf_27 rfl (fun x27 ex27 => ?_)
    have Sx27 : x27 = P 0 2 := ex27.trans (mI_v i_1 0 2)
    refine G_iconst (v := 1) C 29 dX11_hourOf_28 rfl rfl ?_
    refine G_iload_n (i := 1) C 30 dX11_hourOf_29 rfl rfl rfl ?_
    refine G_ishl C 31 dX11_hourOf_30 rfl (fun x30 ex30 => ?_)
    refine G_iconst (v := (-1)) C 32 dX11_hourOf_31 rfl rfl ?_
    refine G_ixor C 33 dX11_hourOf_32 rfl (fun x32 ex32 => ?_)
    refine G_iand C 34 dX11_hourOf_33 rfl (fun x33 ex33 => ?_)
    refine G_iast (n := 13) C 35 (by decide) (fun σ => eMk (by decide) _ _ σ) (2) rfl (by omega) (by decide) (Nat.le_refl _) dX11_hourOf_34 rfl (fun s34 es34 => ?_)
    have i_2 : mI TX nT n l (x_cryN P ((1 : Int32) <<< (nI t &&& 31)) 0) s34 := by have z := mI_news i_1 es34 (by rw [ex33, Sx27]; exact bt_and1024 _ hI.2.1.2.2.2.2.2.2.2.1); rw [ex33, Sx27, ex32, ex30, T4, et] at z; exact z
    have f_2 : Fr mH s s34 := Fr.tr f_1 (Fr.up es34 (by unfold mH; omega))
    refine G_iconst (v := 0) C 36 dX11_hourOf_35 rfl rfl ?_
    refine G_istore_n (i := 3) (L' := [some (.ref (e_ad E 0)), some (.int x1), some (.int x17), some (.int 0)]) C 37 dX11_hourOf_36 rfl rfl (Nat.le_of_ble_eq_true rfl) rfl rfl ?_
    have L37 : ∀ (f37 : Nat) (k : Nat) (y : Int32) (sl37 : gS) (Ey : y = nI k) (hk : k ≤ n) (il37 : mI TX nT n l (x_cryN P ((1 : Int32) <<< (nI t &&& 31)) k) sl37) (fl37 : Fr mH s sl37), n < k + f37 → GW SM E (gFin SM E (gQi SM (fun r s' => Fr mH s s' ∧ mI TX nT n l (x_pass TX P) s' ∧ r = x_crd TX P))) 37 [some (.ref (e_ad E 0)), some (.int x1), some (.int x17), some (.int y)] [] sl37 := by
      intro f37
      induction f37 with
      | zero =>
        intro k y sl37 Ey hk il37 fl37 hf37
        exact absurd hf37 (by omega)
      | succ f37 ih37 =>
        intro k y sl37 Ey hk il37 fl37 hf37
        refine G_iload_n (i := 3) C 38 dX11_hourOf_37 rfl rfl rfl ?_
        refine G_aload_n (i := 0) C 39 dX11_hourOf_38 rfl rfl rfl ?_
        refine X11_75g C 42 dX11_hourOf_39 rfl (fun x39 ex39 => ?_)
        have Sx39 : x39 = nI n := ex39.trans (mI_n il37)
        refine G_icmp_ge C 80 45 dX11_hourOf_42 rfl rfl (fun c42 => ?_) (fun c42 => ?_)
        ·
          have n42 : ¬ k < n := fun h => c42 ((g_ltN (a := k) (b := n) (hx := Ey) (hy := Sx39) (by omega) (by omega)).mpr h)
          have i2 : mI TX nT n l (x_pcry TX P) sl37 := by unfold x_pcry; rw [if_neg (by rw [← T4]; exact c7), et, x_nOf hI.2.1.1 hn6]; have e : k = n := (by omega); subst e; exact il37
          refine G_iconst (v := 0) C 81 dX11_hourOf_80 rfl rfl ?_
          refine G_istore_n (i := 2) (L' := [some (.ref (e_ad E 0)), some (.int x1), some (.int 0), some (.int y)]) C 82 dX11_hourOf_81 rfl rfl (Nat.le_of_ble_eq_true rfl) rfl rfl ?_
          refine G_drop (L' := [some (.ref (e_ad E 0)), some (.int x1), some (.int 0), none]) ⟨rfl, rfl, rfl, trivial⟩ ?_
          have L82 : ∀ (f82 : Nat) (k : Nat) (y : Int32) (sl82 : gS) (Ey : y = nI k) (hk : k ≤ n) (il82 : mI TX nT n l (x_gabN TX (x_pcry TX P) n k) sl82) (fl82 : Fr mH s sl82), n < k + f82 → GW SM E (gFin SM E (gQi SM (fun r s' => Fr mH s s' ∧ mI TX nT n l (x_pass TX P) s' ∧ r = x_crd TX P))) 82 [some (.ref (e_ad E 0)), some (.int x1), some (.int y), none] [] sl82 := by
            intro f82
            induction f82 with
            | zero =>
              intro k y sl82 Ey hk il82 fl82 hf82
              exact absurd hf82 (by omega)
            | succ f82 ih82 =>
              intro k y sl82 Ey hk il82 fl82 hf82
              refine G_iload_n (i := 2) C 83 dX11_hourOf_82 rfl rfl rfl ?_
              refine G_aload_n (i := 0) C 84 dX11_hourOf_83 rfl rfl rfl ?_
              refine X11_75g C 87 dX11_hourOf_84 rfl (fun x84 ex84 => ?_)
              have Sx84 : x84 = nI n := ex84.trans (mI_n il82)
              refine G_icmp_ge C 119 90 dX11_hourOf_87 rfl rfl (fun c87 => ?_) (fun c87 => ?_)
              ·
                have n87 : ¬ k < n := fun h => c87 ((g_ltN (a := k) (b := n) (hx := Ey) (hy := Sx84) (by omega) (by omega)).mpr h)
                have i4 : mI TX nT n l (x_pgab TX P) sl82 := by unfold x_pgab; rw [x_nOf hI.2.1.1 hn6]; have e : k = n := (by omega); subst e; exact il82
                refine G_iconst (v := 0) C 120 dX11_hourOf_119 rfl rfl ?_
                refine G_istore_n (i := 2) (L' := [some (.ref (e_ad E 0)), some (.int x1), some (.int 0), none]) C 121 dX11_hourOf_120 rfl rfl (Nat.le_of_ble_eq_true rfl) rfl rfl ?_
                have L121 : ∀ (f121 : Nat) (k : Nat) (y : Int32) (sl121 : gS) (Ey : y = nI k) (hk : k ≤ n) (il121 : mI TX nT n l (x_movN TX (x_pgab TX P) k) sl121) (fl121 : Fr mH s sl121), n < k + f121 → GW SM E (gFin SM E (gQi SM (fun r s' => Fr mH s s' ∧ mI TX nT n l (x_pass TX P) s' ∧ r = x_crd TX P))) 121 [some (.ref (e_ad E 0)), some (.int x1), some (.int y), none] [] sl121 := by
                  intro f121
                  induction f121 with
                  | zero =>
                    intro k y sl121 Ey hk il121 fl121 hf121
                    exact absurd hf121 (by omega)
                  | succ f121 ih121 =>
                    intro k y sl121 Ey hk il121 fl121 hf121
                    refine G_iload_n (i := 2) C 122 dX11_hourOf_121 rfl rfl rfl ?_
                    refine G_aload_n (i := 0) C 123 dX11_hourOf_122 rfl rfl rfl ?_
                    refine X11_75g C 126 dX11_hourOf_123 rfl (fun x123 ex123 => ?_)
                    have Sx123 : x123 = nI n := ex123.trans (mI_n il121)
                    refine G_icmp_ge C 173 129 dX11_hourOf_126 rfl rfl (fun c126 => ?_) (fun c126 => ?_)
                    ·
                      have n126 : ¬ k < n := fun h => c126 ((g_ltN (a := k) (b := n) (hx := Ey) (hy := Sx123) (by omega) (by omega)).mpr h)
                      have i3 : mI TX nT n l (x_pmov TX P) sl121 := by unfold x_pmov; rw [x_nOf hI.2.1.1 hn6]; have e : k = n := (by omega); subst e; exact il121
                      refine G_aload_n (i := 0) C 174 dX11_hourOf_173 rfl rfl rfl ?_
                      refine X11_19g C 177 dX11_hourOf_174 rfl ?_
                      refine G_iconst (v := 1) C 178 dX11_hourOf_177 rfl rfl ?_
                      refine G_aload_n (i := 0) C 179 dX11_hourOf_178 rfl rfl rfl ?_
                      refine X11_19g C 182 dX11_hourOf_179 rfl ?_
                      refine G_iconst (v := 1) C 183 dX11_hourOf_182 rfl rfl ?_
                      refine G_iald (n := 13) C 184 (by decide) (eMk (by decide) _ _ _) (1) rfl (by omega) (by decide) dX11_hourOf_183 rfl (fun x183 ex183 => ?_)
                      have Sx183 : x183 = (x_pmov TX P) 0 1 := ex183.trans (mI_v i3 0 1)
                      refine G_bipush (v := 8) C 186 dX11_hourOf_184 rfl rfl ?_
                      refine G_icmp_ne C 193 189 dX11_hourOf_186 rfl rfl (fun c186 => ?_) (fun c186 => ?_)
                      ·
                        refine G_aload_n (i := 0) C 194 dX11_hourOf_193 rfl rfl rfl ?_
                        refine X11_19g C 197 dX11_hourOf_194 rfl ?_
                        refine G_iconst (v := 1) C 198 dX11_hourOf_197 rfl rfl ?_
                        refine G_iald (n := 13) C 199 (by decide) (eMk (by decide) _ _ _) (1) rfl (by omega) (by decide) dX11_hourOf_198 rfl (fun x198 ex198 => ?_)
                        have Sx198 : x198 = (x_pmov TX P) 0 1 := ex198.trans (mI_v i3 0 1)
                        refine G_iconst (v := 1) C 200 dX11_hourOf_199 rfl rfl ?_
                        refine G_iadd C 201 dX11_hourOf_200 rfl (fun x200 ex200 => ?_)
                        refine G_iast (n := 13) C 202 (by decide) (fun σ => eMk (by decide) _ _ σ) (1) rfl (by omega) (by decide) (Nat.le_refl _) dX11_hourOf_201 rfl (fun s201 es201 => ?_)
                        have i_3 : mI TX nT n l (x_pcor (x_pmov TX P)) s201 := by
                                obtain ⟨q, hq, eq⟩ := i3.2.1.2.2.2.2.2.2.2.2
                                have yc := y_cor q hq
                                have v0 : x200 = x_pmov TX P 0 1 + 1 - (x_pmov TX P 0 1 + 1) / 9 * 9 := by
                                  rw [eq, ← yc, if_neg (by rw [← eq, ← Sx183]; exact c186), ← eq, ex200, Sx198]
                                have z := mI_corner i3 es201 (by rw [v0, eq, nI_1, show (9 : Int32) = nI 9 from rfl, pk_rem (by omega) (by omega) (by omega)]; exact ⟨_, Nat.mod_lt _ (by decide), rfl⟩)
                                rw [v0] at z
                                exact z
                        have f_3 : Fr mH s s201 := Fr.tr fl121 (Fr.up es201 (by unfold mH; omega))
                        refine G_aload_n (i := 0) C 203 dX11_hourOf_202 rfl rfl rfl ?_
                        refine X11_19g C 206 dX11_hourOf_203 rfl ?_
                        refine G_iconst (v := 0) C 207 dX11_hourOf_206 rfl rfl ?_
                        refine G_dup2 C 208 dX11_hourOf_207 rfl rfl rfl ?_
                        refine G_iald (n := 13) C 209 (by decide) (eMk (by decide) _ _ _) (0) rfl (by omega) (by decide) dX11_hourOf_208 rfl (fun x208 ex208 => ?_)
                        have Sx208 : x208 = (x_pcor (x_pmov TX P)) 0 0 := ex208.trans (mI_v i_3 0 0)
                        refine G_iconst (v := 1) C 210 dX11_hourOf_209 rfl rfl ?_
                        refine G_iadd C 211 dX11_hourOf_210 rfl (fun x210 ex210 => ?_)
                        refine G_iast (n := 13) C 212 (by decide) (fun σ => eMk (by decide) _ _ σ) (0) rfl (by omega) (by decide) (Nat.le_refl _) dX11_hourOf_211 rfl (fun s211 es211 => ?_)
                        have i_4 : mI TX nT n l (x_pass TX P) s211 := by have z := mI_hour i_3 es211; rw [ex210, Sx208] at z; exact z
                        have f_4 : Fr mH s s211 := Fr.tr f_3 (Fr.up es211 (by unfold mH; omega))
                        refine G_iload_n (i := 1) C 213 dX11_hourOf_212 rfl rfl rfl ?_
                        exact G_iret C dX11_hourOf_213 (⟨f_4, i_4, T4⟩)
                      ·
                        refine G_iconst (v := 0) C 190 dX11_hourOf_189 rfl rfl ?_
                        refine G_goto C 201 dX11_hourOf_190 rfl ?_
                        refine G_iast (n := 13) C 202 (by decide) (fun σ => eMk (by decide) _ _ σ) (1) rfl (by omega) (by decide) (Nat.le_refl _) dX11_hourOf_201 rfl (fun s201 es201 => ?_)
                        have i_3 : mI TX nT n l (x_pcor (x_pmov TX P)) s201 := by
                                obtain ⟨q, hq, eq⟩ := i3.2.1.2.2.2.2.2.2.2.2
                                have yc := y_cor q hq
                                have v0 : 0 = x_pmov TX P 0 1 + 1 - (x_pmov TX P 0 1 + 1) / 9 * 9 := by
                                  rw [eq, ← yc, if_pos (by rw [← eq, ← Sx183]; exact c186)]
                                have z := mI_corner i3 es201 (by rw [v0, eq, nI_1, show (9 : Int32) = nI 9 from rfl, pk_rem (by omega) (by omega) (by omega)]; exact ⟨_, Nat.mod_lt _ (by decide), rfl⟩)
                                rw [v0] at z
                                exact z
                        have f_3 : Fr mH s s201 := Fr.tr fl121 (Fr.up es201 (by unfold mH; omega))
                        refine G_aload_n (i := 0) C 203 dX11_hourOf_202 rfl rfl rfl ?_
                        refine X11_19g C 206 dX11_hourOf_203 rfl ?_
                        refine G_iconst (v := 0) C 207 dX11_hourOf_206 rfl rfl ?_
                        refine G_dup2 C 208 dX11_hourOf_207 rfl rfl rfl ?_
                        refine G_iald (n := 13) C 209 (by decide) (eMk (by decide) _ _ _) (0) rfl (by omega) (by decide) dX11_hourOf_208 rfl (fun x208 ex208 => ?_)
                        have Sx208 : x208 = (x_pcor (x_pmov TX P)) 0 0 := ex208.trans (mI_v i_3 0 0)
                        refine G_iconst (v := 1) C 210 dX11_hourOf_209 rfl rfl ?_
                        refine G_iadd C 211 dX11_hourOf_210 rfl (fun x210 ex210 => ?_)
                        refine G_iast (n := 13) C 212 (by decide) (fun σ => eMk (by decide) _ _ σ) (0) rfl (by omega) (by decide) (Nat.le_refl _) dX11_hourOf_211 rfl (fun s211 es211 => ?_)
                        have i_4 : mI TX nT n l (x_pass TX P) s211 := by have z := mI_hour i_3 es211; rw [ex210, Sx208] at z; exact z
                        have f_4 : Fr mH s s211 := Fr.tr f_3 (Fr.up es211 (by unfold mH; omega))
                        refine G_iload_n (i := 1) C 213 dX11_hourOf_212 rfl rfl rfl ?_
                        exact G_iret C dX11_hourOf_213 (⟨f_4, i_4, T4⟩)
                    ·
                      have n126 : k < n := (g_ltN (a := k) (b := n) (hx := Ey) (hy := Sx123) (by omega) (by omega)).mp c126
                      refine G_aload_n (i := 0) C 130 dX11_hourOf_129 rfl rfl rfl ?_
                      refine X11_16g C 133 dX11_hourOf_130 rfl ?_
                      refine G_iconst (v := 4) C 134 dX11_hourOf_133 rfl rfl ?_
                      refine G_iload_n (i := 2) C 135 dX11_hourOf_134 rfl rfl rfl ?_
                      refine G_imul C 136 dX11_hourOf_135 rfl (fun x135 ex135 => ?_)
                      have Nx135 : x135 = nI (4 * k) := g_mulN ex135 rfl Ey
                      refine G_iald (n := 24) C 137 (by decide) (eMk (by decide) _ _ _) ((4 * k)) Nx135 (by omega) (by decide) dX11_hourOf_136 rfl (fun x136 ex136 => ?_)
                      have Sx136 : x136 = (x_movN TX (x_pgab TX P) k) 2 k := ex136.trans (congrFun (congrFun il121.1 2) k)
                      refine G_aload_n (i := 0) C 138 dX11_hourOf_137 rfl rfl rfl ?_
                      refine G_iload_n (i := 2) C 139 dX11_hourOf_138 rfl rfl rfl ?_
                      refine G_calli 142 (G_runV C Kc_X11_goesOf KV_X11_191 (by omega) (by decide) (eM _ _ _) rfl (c_X11_goesOf 0 TX nT n l (x_movN TX (x_pgab TX P) k) sl121 il121 y k Ey (by omega)) rfl rfl rfl (Nat.le_of_ble_eq_true rfl) rfl dX11_hourOf_139) rfl (fun x139 s139 h139 => ?_)
                      have i_3 : mI TX nT n l (x_movN TX (x_pgab TX P) k) s139 := mI_fr il121 (h139.1)
                      have f_3 : Fr mH s s139 := Fr.tr fl121 (Fr.H (h139.1))
                      refine G_iadd C 143 dX11_hourOf_142 rfl (fun x142 ex142 => ?_)
                      refine G_bipush (v := 9) C 145 dX11_hourOf_143 rfl rfl ?_
                      refine G_irem C 146 dX11_hourOf_145 rfl (by decide) (fun x145 ex145 => ?_)
                      refine G_istore_n (i := 3) (L' := [some (.ref (e_ad E 0)), some (.int x1), some (.int y), some (.int x145)]) C 147 dX11_hourOf_146 rfl rfl (Nat.le_of_ble_eq_true rfl) rfl rfl ?_
                      refine G_aload_n (i := 0) C 148 dX11_hourOf_147 rfl rfl rfl ?_
                      refine X11_16g C 151 dX11_hourOf_148 rfl ?_
                      refine G_iconst (v := 4) C 152 dX11_hourOf_151 rfl rfl ?_
                      refine G_iload_n (i := 2) C 153 dX11_hourOf_152 rfl rfl rfl ?_
                      refine G_imul C 154 dX11_hourOf_153 rfl (fun x153 ex153 => ?_)
                      have Nx153 : x153 = nI (4 * k) := g_mulN ex153 rfl Ey
                      refine G_iload_n (i := 3) C 155 dX11_hourOf_154 rfl rfl rfl ?_
                      refine G_if_ge C 165 158 dX11_hourOf_155 rfl rfl (fun c155 => ?_) (fun c155 => ?_)
                      ·
                        refine G_iload_n (i := 3) C 166 dX11_hourOf_165 rfl rfl rfl ?_
                        refine G_iast (n := 24) C 167 (by decide) (fun σ => eMk (by decide) _ _ σ) ((4 * k)) Nx153 (by omega) (by decide) (Nat.le_refl _) dX11_hourOf_166 rfl (fun s166 es166 => ?_)
                        have i_4 : mI TX nT n l (x_movN TX (x_pgab TX P) (k + 1)) s166 := by have z := mI_up2 i_3 es166; rw [ex145, ex142, Sx136, h139.2, y_fmP (by rw [← h139.2, ← Sx136, ← ex142, ← ex145]; exact c155)] at z; exact z
                        have f_4 : Fr mH s s166 := Fr.tr f_3 (Fr.up es166 (by unfold mH; omega))
                        refine G_iinc (w := 1) C 170 dX11_hourOf_167 rfl rfl rfl rfl (fun x167 ex167 => ?_)
                        have Nx167 : x167 = nI (k + 1) := g_addN ex167 Ey rfl
                        show GW SM E _ 170 [some (.ref (e_ad E 0)), some (.int x1), some (.int x167), some (.int x145)] [] s166
                        refine G_goto C 121 dX11_hourOf_170 rfl ?_
                        refine G_drop (L' := [some (.ref (e_ad E 0)), some (.int x1), some (.int x167), none]) ⟨rfl, rfl, rfl, trivial⟩ ?_
                        exact ih121 (k + 1) x167 s166 (g_cn (a := (k + 1)) Nx167 (by first | rfl | omega | (simp only [List.length_cons, List.length_drop]; done) | (simp only [List.length_cons, List.length_drop]; omega))) (by omega) (i_4) f_4 (by omega)
                      ·
                        refine G_iload_n (i := 3) C 159 dX11_hourOf_158 rfl rfl rfl ?_
                        refine G_bipush (v := 9) C 161 dX11_hourOf_159 rfl rfl ?_
                        refine G_iadd C 162 dX11_hourOf_161 rfl (fun x161 ex161 => ?_)
                        refine G_goto C 166 dX11_hourOf_162 rfl ?_
                        refine G_iast (n := 24) C 167 (by decide) (fun σ => eMk (by decide) _ _ σ) ((4 * k)) Nx153 (by omega) (by decide) (Nat.le_refl _) dX11_hourOf_166 rfl (fun s166 es166 => ?_)
                        have i_4 : mI TX nT n l (x_movN TX (x_pgab TX P) (k + 1)) s166 := by have z := mI_up2 i_3 es166; rw [ex161, ex145, ex142, Sx136, h139.2, y_fmN (by rw [← h139.2, ← Sx136, ← ex142, ← ex145]; exact c155)] at z; exact z
                        have f_4 : Fr mH s s166 := Fr.tr f_3 (Fr.up es166 (by unfold mH; omega))
                        refine G_iinc (w := 1) C 170 dX11_hourOf_167 rfl rfl rfl rfl (fun x167 ex167 => ?_)
                        have Nx167 : x167 = nI (k + 1) := g_addN ex167 Ey rfl
                        show GW SM E _ 170 [some (.ref (e_ad E 0)), some (.int x1), some (.int x167), some (.int x145)] [] s166
                        refine G_goto C 121 dX11_hourOf_170 rfl ?_
                        refine G_drop (L' := [some (.ref (e_ad E 0)), some (.int x1), some (.int x167), none]) ⟨rfl, rfl, rfl, trivial⟩ ?_
                        exact ih121 (k + 1) x167 s166 (g_cn (a := (k + 1)) Nx167 (by first | rfl | omega | (simp only [List.length_cons, List.length_drop]; done) | (simp only [List.length_cons, List.length_drop]; omega))) (by omega) (i_4) f_4 (by omega)
                exact L121 (n + 1) 0 0 sl82 (g_cn (a := 0) rfl (by first | rfl | omega)) (by omega) (i4) fl82 (by omega)
              ·
                have n87 : k < n := (g_ltN (a := k) (b := n) (hx := Ey) (hy := Sx84) (by omega) (by omega)).mp c87
                refine G_aload_n (i := 0) C 91 dX11_hourOf_90 rfl rfl rfl ?_
                refine X11_16g C 94 dX11_hourOf_91 rfl ?_
                refine G_iconst (v := 4) C 95 dX11_hourOf_94 rfl rfl ?_
                refine G_iload_n (i := 2) C 96 dX11_hourOf_95 rfl rfl rfl ?_
                refine G_imul C 97 dX11_hourOf_96 rfl (fun x96 ex96 => ?_)
                have Nx96 : x96 = nI (4 * k) := g_mulN ex96 rfl Ey
                refine G_iconst (v := 2) C 98 dX11_hourOf_97 rfl rfl ?_
                refine G_iadd C 99 dX11_hourOf_98 rfl (fun x98 ex98 => ?_)
                have Nx98 : x98 = nI ((4 * k) + 2) := g_addN ex98 Nx96 rfl
                refine G_dup2 C 100 dX11_hourOf_99 rfl rfl rfl ?_
                refine G_iald (n := 24) C 101 (by decide) (eMk (by decide) _ _ _) (((4 * k) + 2)) Nx98 (by omega) (by decide) dX11_hourOf_100 rfl (fun x100 ex100 => ?_)
                have Sx100 : x100 = (x_gabN TX (x_pcry TX P) n k) 4 k := ex100.trans (congrFun (congrFun il82.1 4) k)
                obtain ⟨mx100, hmx100, emx100⟩ := (mI_p il82 (p := k) (by omega)).2.2
                refine G_aload_n (i := 0) C 102 dX11_hourOf_101 rfl rfl rfl ?_
                refine G_iload_n (i := 2) C 103 dX11_hourOf_102 rfl rfl rfl ?_
                refine G_aload_n (i := 0) C 104 dX11_hourOf_103 rfl rfl rfl ?_
                refine G_iload_n (i := 2) C 105 dX11_hourOf_104 rfl rfl rfl ?_
                refine G_calli 108 (G_runV C Kc_X11_knownToOthers KV_X11_206 (by omega) (by decide) (eM _ _ _) rfl (c_X11_knownToOthers 0 TX nT n l (x_gabN TX (x_pcry TX P) n k) sl82 il82 y k Ey (by omega)) rfl rfl rfl (Nat.le_of_ble_eq_true rfl) rfl dX11_hourOf_105) rfl (fun x105 s105 h105 => ?_)
                obtain ⟨es105, h105⟩ := h105
                have es105 := es105.symm
                subst es105
                refine G_calli 111 (G_runV C Kc_X11_wishSet KV_X11_185 (by omega) (by decide) (eM _ _ _) rfl (c_X11_wishSet 0 TX nT n l (x_gabN TX (x_pcry TX P) n k) sl82 il82 y k Ey (by omega) x105) rfl rfl rfl (Nat.le_of_ble_eq_true rfl) rfl dX11_hourOf_108) rfl (fun x108 s108 h108 => ?_)
                have i_3 : mI TX nT n l (x_gabN TX (x_pcry TX P) n k) s108 := mI_fr il82 (h108.1)
                have f_3 : Fr mH s s108 := Fr.tr fl82 (Fr.H (h108.1))
                refine G_ior C 112 dX11_hourOf_111 rfl (fun x111 ex111 => ?_)
                refine G_iast (n := 24) C 113 (by decide) (fun σ => eMk (by decide) _ _ σ) (((4 * k) + 2)) Nx98 (by omega) (by decide) (Nat.le_refl _) dX11_hourOf_112 rfl (fun s112 es112 => ?_)
                have i_4 : mI TX nT n l (x_gabN TX (x_pcry TX P) n (k + 1)) s112 := by have z := mI_up4 i_3 es112 (by rw [ex111, Sx100, h108.2]; exact bt_or1024 ⟨mx100, hmx100, emx100⟩ (x_wset1024 _ _ _ _ 10 (by omega))); rw [ex111, Sx100, h108.2, h105] at z; exact z
                have f_4 : Fr mH s s112 := Fr.tr f_3 (Fr.up es112 (by unfold mH; omega))
                refine G_iinc (w := 1) C 116 dX11_hourOf_113 rfl rfl rfl rfl (fun x113 ex113 => ?_)
                have Nx113 : x113 = nI (k + 1) := g_addN ex113 Ey rfl
                show GW SM E _ 116 [some (.ref (e_ad E 0)), some (.int x1), some (.int x113), none] [] s112
                refine G_goto C 82 dX11_hourOf_116 rfl ?_
                exact ih82 (k + 1) x113 s112 (g_cn (a := (k + 1)) Nx113 (by first | rfl | omega | (simp only [List.length_cons, List.length_drop]; done) | (simp only [List.length_cons, List.length_drop]; omega))) (by omega) (i_4) f_4 (by omega)
          exact L82 (n + 1) 0 0 sl37 (g_cn (a := 0) rfl (by first | rfl | omega)) (by omega) (i2) fl37 (by omega)
        ·
          have n42 : k < n := (g_ltN (a := k) (b := n) (hx := Ey) (hy := Sx39) (by omega) (by omega)).mp c42
          refine G_aload_n (i := 0) C 46 dX11_hourOf_45 rfl rfl rfl ?_
          refine X11_16g C 49 dX11_hourOf_46 rfl ?_
          refine G_iconst (v := 4) C 50 dX11_hourOf_49 rfl rfl ?_
          refine G_iload_n (i := 3) C 51 dX11_hourOf_50 rfl rfl rfl ?_
          refine G_imul C 52 dX11_hourOf_51 rfl (fun x51 ex51 => ?_)
          have Nx51 : x51 = nI (4 * k) := g_mulN ex51 rfl Ey
          refine G_iconst (v := 2) C 53 dX11_hourOf_52 rfl rfl ?_
          refine G_iadd C 54 dX11_hourOf_53 rfl (fun x53 ex53 => ?_)
          have Nx53 : x53 = nI ((4 * k) + 2) := g_addN ex53 Nx51 rfl
          refine G_dup2 C 55 dX11_hourOf_54 rfl rfl rfl ?_
          refine G_iald (n := 24) C 56 (by decide) (eMk (by decide) _ _ _) (((4 * k) + 2)) Nx53 (by omega) (by decide) dX11_hourOf_55 rfl (fun x55 ex55 => ?_)
          have Sx55 : x55 = (x_cryN P ((1 : Int32) <<< (nI t &&& 31)) k) 4 k := ex55.trans (congrFun (congrFun il37.1 4) k)
          obtain ⟨mx55, hmx55, emx55⟩ := (mI_p il37 (p := k) (by omega)).2.2
          refine G_iload_n (i := 2) C 57 dX11_hourOf_56 rfl rfl rfl ?_
          refine G_iload_n (i := 3) C 58 dX11_hourOf_57 rfl rfl rfl ?_
          refine G_ishr C 59 dX11_hourOf_58 rfl (fun x58 ex58 => ?_)
          refine G_iconst (v := 1) C 60 dX11_hourOf_59 rfl rfl ?_
          refine G_iand C 61 dX11_hourOf_60 rfl (fun x60 ex60 => ?_)
          refine G_iconst (v := 1) C 62 dX11_hourOf_61 rfl rfl ?_
          refine G_icmp_ne C 71 65 dX11_hourOf_62 rfl rfl (fun c62 => ?_) (fun c62 => ?_)
          ·
            refine G_iconst (v := 0) C 72 dX11_hourOf_71 rfl rfl ?_
            refine G_ior C 73 dX11_hourOf_72 rfl (fun x72 ex72 => ?_)
            refine G_iast (n := 24) C 74 (by decide) (fun σ => eMk (by decide) _ _ σ) (((4 * k) + 2)) Nx53 (by omega) (by decide) (Nat.le_refl _) dX11_hourOf_73 rfl (fun s73 es73 => ?_)
            have i_3 : mI TX nT n l (x_cryN P ((1 : Int32) <<< (nI t &&& 31)) k) s73 := by have z := mI_up4 il37 es73 (by rw [ex72, y_or0, Sx55]; exact ⟨mx55, hmx55, emx55⟩); rw [ex72, y_or0, Sx55, g_up_id] at z; exact z
            have f_3 : Fr mH s s73 := Fr.tr fl37 (Fr.up es73 (by unfold mH; omega))
            refine G_iinc (w := 1) C 77 dX11_hourOf_74 rfl rfl rfl rfl (fun x74 ex74 => ?_)
            have Nx74 : x74 = nI (k + 1) := g_addN ex74 Ey rfl
            show GW SM E _ 77 [some (.ref (e_ad E 0)), some (.int x1), some (.int x17), some (.int x74)] [] s73
            refine G_goto C 37 dX11_hourOf_77 rfl ?_
            exact ih37 (k + 1) x74 s73 (g_cn (a := (k + 1)) Nx74 (by first | rfl | omega | (simp only [List.length_cons, List.length_drop]; done) | (simp only [List.length_cons, List.length_drop]; omega))) (by omega) (by
                  have z : x_bit x17 (nI k) = 0 := x_bitN1 (by unfold x_bit; rw [← Ey, ← ex58, ← ex60]; exact c62)
                  rw [h17, Sx16, y_lisBit hn6 (by omega)] at z
                  rw [x_cryN]
                  by_cases q1 : P 2 k = P 0 1
                  · rw [if_pos q1, if_pos (Classical.byContradiction fun q2 => z ⟨q1, q2⟩)]; exact i_3
                  · rw [if_neg q1]; exact i_3) f_3 (by omega)
          ·
            refine G_iconst (v := 1) C 66 dX11_hourOf_65 rfl rfl ?_
            refine G_iload_n (i := 1) C 67 dX11_hourOf_66 rfl rfl rfl ?_
            refine G_ishl C 68 dX11_hourOf_67 rfl (fun x67 ex67 => ?_)
            refine G_goto C 72 dX11_hourOf_68 rfl ?_
            refine G_ior C 73 dX11_hourOf_72 rfl (fun x72 ex72 => ?_)
            refine G_iast (n := 24) C 74 (by decide) (fun σ => eMk (by decide) _ _ σ) (((4 * k) + 2)) Nx53 (by omega) (by decide) (Nat.le_refl _) dX11_hourOf_73 rfl (fun s73 es73 => ?_)
            have i_3 : mI TX nT n l (g_up (x_cryN P ((1 : Int32) <<< (nI t &&& 31)) k) 4 k ((x_cryN P ((1 : Int32) <<< (nI t &&& 31)) k) 4 k ||| ((1 : Int32) <<< (nI t &&& 31)))) s73 := by have z := mI_up4 il37 es73 (by rw [ex72, ex67, T4, et, Sx55]; exact bt_or1024 ⟨mx55, hmx55, emx55⟩ (bt_1024p ht)); rw [ex72, ex67, T4, et, Sx55] at z; exact z
            have f_3 : Fr mH s s73 := Fr.tr fl37 (Fr.up es73 (by unfold mH; omega))
            refine G_iinc (w := 1) C 77 dX11_hourOf_74 rfl rfl rfl rfl (fun x74 ex74 => ?_)
            have Nx74 : x74 = nI (k + 1) := g_addN ex74 Ey rfl
            show GW SM E _ 77 [some (.ref (e_ad E 0)), some (.int x1), some (.int x17), some (.int x74)] [] s73
            refine G_goto C 37 dX11_hourOf_77 rfl ?_
            exact ih37 (k + 1) x74 s73 (g_cn (a := (k + 1)) Nx74 (by first | rfl | omega | (simp only [List.length_cons, List.length_drop]; done) | (simp only [List.length_cons, List.length_drop]; omega))) (by omega) (by
                  have z : ¬ x_bit x17 (nI k) = 0 := x_bit1N (by unfold x_bit; rw [← Ey, ← ex58, ← ex60]; exact c62)
                  rw [h17, Sx16, y_lisBit hn6 (by omega)] at z
                  have z2 := Classical.not_not.mp z
                  rw [x_cryN, if_pos z2.1, if_neg z2.2]; exact i_3) f_3 (by omega)
    exact L37 (n + 1) 0 0 s34 (g_cn (a := 0) rfl (by first | rfl | omega)) (by omega) (i_2) f_2 (by omega)
theorem dX11_keeps_0 : decode cX11_keeps 0 = .ok (.iconst 0, 1) := by decide +kernel
theorem dX11_keeps_1 : decode cX11_keeps 1 = .ok (.istore_n 1, 1) := by decide +kernel
theorem dX11_keeps_2 : decode cX11_keeps 2 = .ok (.iload_n 1, 1) := by decide +kernel
theorem dX11_keeps_3 : decode cX11_keeps 3 = .ok (.bipush 24, 2) := by decide +kernel
theorem dX11_keeps_5 : decode cX11_keeps 5 = .ok (.if_icmp .ge 21, 3) := by decide +kernel
theorem dX11_keeps_8 : decode cX11_keeps 8 = .ok (.aload_n 0, 1) := by decide +kernel
theorem dX11_keeps_9 : decode cX11_keeps 9 = .ok (.getfield 61, 3) := by decide +kernel
theorem dX11_keeps_12 : decode cX11_keeps 12 = .ok (.iload_n 1, 1) := by decide +kernel
theorem dX11_keeps_13 : decode cX11_keeps 13 = .ok (.aload_n 0, 1) := by decide +kernel
theorem dX11_keeps_14 : decode cX11_keeps 14 = .ok (.getfield 16, 3) := by decide +kernel
theorem dX11_keeps_17 : decode cX11_keeps 17 = .ok (.iload_n 1, 1) := by decide +kernel
theorem dX11_keeps_18 : decode cX11_keeps 18 = .ok (.iaload, 1) := by decide +kernel
theorem dX11_keeps_19 : decode cX11_keeps 19 = .ok (.iastore, 1) := by decide +kernel
theorem dX11_keeps_20 : decode cX11_keeps 20 = .ok (.iinc 1 1, 3) := by decide +kernel
theorem dX11_keeps_23 : decode cX11_keeps 23 = .ok (.goto (-21), 3) := by decide +kernel
theorem dX11_keeps_26 : decode cX11_keeps 26 = .ok (.iconst 0, 1) := by decide +kernel
theorem dX11_keeps_27 : decode cX11_keeps 27 = .ok (.istore_n 1, 1) := by decide +kernel
theorem dX11_keeps_28 : decode cX11_keeps 28 = .ok (.iload_n 1, 1) := by decide +kernel
theorem dX11_keeps_29 : decode cX11_keeps 29 = .ok (.iconst 3, 1) := by decide +kernel
theorem dX11_keeps_30 : decode cX11_keeps 30 = .ok (.if_icmp .ge 24, 3) := by decide +kernel
theorem dX11_keeps_33 : decode cX11_keeps 33 = .ok (.aload_n 0, 1) := by decide +kernel
theorem dX11_keeps_34 : decode cX11_keeps 34 = .ok (.getfield 61, 3) := by decide +kernel
theorem dX11_keeps_37 : decode cX11_keeps 37 = .ok (.bipush 24, 2) := by decide +kernel
theorem dX11_keeps_39 : decode cX11_keeps 39 = .ok (.iload_n 1, 1) := by decide +kernel
theorem dX11_keeps_40 : decode cX11_keeps 40 = .ok (.iadd, 1) := by decide +kernel
theorem dX11_keeps_41 : decode cX11_keeps 41 = .ok (.aload_n 0, 1) := by decide +kernel
theorem dX11_keeps_42 : decode cX11_keeps 42 = .ok (.getfield 19, 3) := by decide +kernel
theorem dX11_keeps_45 : decode cX11_keeps 45 = .ok (.iload_n 1, 1) := by decide +kernel
theorem dX11_keeps_46 : decode cX11_keeps 46 = .ok (.iaload, 1) := by decide +kernel
theorem dX11_keeps_47 : decode cX11_keeps 47 = .ok (.iastore, 1) := by decide +kernel
theorem dX11_keeps_48 : decode cX11_keeps 48 = .ok (.iinc 1 1, 3) := by decide +kernel
theorem dX11_keeps_51 : decode cX11_keeps 51 = .ok (.goto (-23), 3) := by decide +kernel
theorem dX11_keeps_54 : decode cX11_keeps 54 = .ok (.return_, 1) := by decide +kernel
set_option maxHeartbeats 4000000 in
set_option maxRecDepth 100000 in
theorem c_X11_keeps (d : Nat) (s : gS) : gMt SM yX11_keeps cX11_keeps 2 none (d + 1) (fun ad => [.ref (ad 0)]) s (gQv SM (fun s' => Fr (fun q => q = 18) s s' ∧ kp s s')) := by
  refine gMt_of SM_ok (by decide +kernel) (fun ad => [some (.ref (ad 0)), none]) (fun _ => rfl) (fun _ => rfl) (fun _ => Nat.le_of_ble_eq_true rfl) (fun E C0 => ?_)
  have C : gCx SM E RX11 cX11_keeps 2 none (d + 1) := C0
  have f : Fr (fun q => q = 18) s s := Fr.rf
  refine G_gz (fun hz => ?_)
  refine G_iconst (v := 0) C 1 dX11_keeps_0 rfl rfl ?_
  refine G_istore_n (i := 1) (L' := [some (.ref (e_ad E 0)), some (.int 0)]) C 2 dX11_keeps_1 rfl rfl (Nat.le_of_ble_eq_true rfl) rfl rfl ?_
  have L2 : ∀ (f2 : Nat) (k : Nat) (y : Int32) (sl2 : gS) (Ey : y = nI k) (hk : k ≤ 24) (ha : ∀ j, j < k → sl2 18 j = s 3 j) (fl2 : Fr (fun q => q = 18) s sl2), 24 < k + f2 → GW SM E (gFin SM E (gQv SM (fun s' => Fr (fun q => q = 18) s s' ∧ kp s s'))) 2 [some (.ref (e_ad E 0)), some (.int y)] [] sl2 := by
    intro f2
    induction f2 with
    | zero =>
      intro k y sl2 Ey hk ha fl2 hf2
      exact absurd hf2 (by omega)
    | succ f2 ih2 =>
      intro k y sl2 Ey hk ha fl2 hf2
      refine G_iload_n (i := 1) C 3 dX11_keeps_2 rfl rfl rfl ?_
      refine G_bipush (v := 24) C 5 dX11_keeps_3 rfl rfl ?_
      refine G_icmp_ge C 26 8 dX11_keeps_5 rfl rfl (fun c5 => ?_) (fun c5 => ?_)
      ·
        have n5 : ¬ k < 24 := fun h => c5 ((g_ltN (a := k) (b := 24) (hx := Ey) (hy := rfl) (by omega) (by omega)).mpr h)
        refine G_iconst (v := 0) C 27 dX11_keeps_26 rfl rfl ?_
        refine G_istore_n (i := 1) (L' := [some (.ref (e_ad E 0)), some (.int 0)]) C 28 dX11_keeps_27 rfl rfl (Nat.le_of_ble_eq_true rfl) rfl rfl ?_
        have L28 : ∀ (f28 : Nat) (m : Nat) (y : Int32) (sl28 : gS) (Ey : y = nI m) (hm : m ≤ 3) (ha2 : ∀ j, j < 24 → sl28 18 j = s 3 j) (hb : ∀ j, j < m → sl28 18 (24 + j) = s 4 j) (fl28 : Fr (fun q => q = 18) s sl28), 3 < m + f28 → GW SM E (gFin SM E (gQv SM (fun s' => Fr (fun q => q = 18) s s' ∧ kp s s'))) 28 [some (.ref (e_ad E 0)), some (.int y)] [] sl28 := by
          intro f28
          induction f28 with
          | zero =>
            intro m y sl28 Ey hm ha2 hb fl28 hf28
            exact absurd hf28 (by omega)
          | succ f28 ih28 =>
            intro m y sl28 Ey hm ha2 hb fl28 hf28
            refine G_iload_n (i := 1) C 29 dX11_keeps_28 rfl rfl rfl ?_
            refine G_iconst (v := 3) C 30 dX11_keeps_29 rfl rfl ?_
            refine G_icmp_ge C 54 33 dX11_keeps_30 rfl rfl (fun c30 => ?_) (fun c30 => ?_)
            ·
              have n30 : ¬ m < 3 := fun h => c30 ((g_ltN (a := m) (b := 3) (hx := Ey) (hy := rfl) (by omega) (by omega)).mpr h)
              exact G_vret C dX11_keeps_54 (⟨fl28, ha2, fun j hj => hb j (by omega), fun j hj => gz_m hz (k := 3) hj⟩)
            ·
              have n30 : m < 3 := (g_ltN (a := m) (b := 3) (hx := Ey) (hy := rfl) (by omega) (by omega)).mp c30
              refine G_aload_n (i := 0) C 34 dX11_keeps_33 rfl rfl rfl ?_
              refine X11_61g C 37 dX11_keeps_34 rfl ?_
              refine G_bipush (v := 24) C 39 dX11_keeps_37 rfl rfl ?_
              refine G_iload_n (i := 1) C 40 dX11_keeps_39 rfl rfl rfl ?_
              refine G_iadd C 41 dX11_keeps_40 rfl (fun x40 ex40 => ?_)
              have Nx40 : x40 = nI (24 + m) := g_addN ex40 rfl Ey
              refine G_aload_n (i := 0) C 42 dX11_keeps_41 rfl rfl rfl ?_
              refine X11_19g C 45 dX11_keeps_42 rfl ?_
              refine G_iload_n (i := 1) C 46 dX11_keeps_45 rfl rfl rfl ?_
              refine G_iald (n := 13) C 47 (by decide) (eMk (by decide) _ _ _) (m) Ey (by omega) (by decide) dX11_keeps_46 rfl (fun x46 ex46 => ?_)
              refine G_iast (n := 27) C 48 (by decide) (fun σ => eMk (by decide) _ _ σ) ((24 + m)) Nx40 (by omega) (by decide) (Nat.le_refl _) dX11_keeps_47 rfl (fun s47 es47 => ?_)
              have f_1 : Fr (fun q => q = 18) s s47 := Fr.tr fl28 (Fr.up es47 rfl)
              refine G_iinc (w := 1) C 51 dX11_keeps_48 rfl rfl rfl rfl (fun x48 ex48 => ?_)
              have Nx48 : x48 = nI (m + 1) := g_addN ex48 Ey rfl
              show GW SM E _ 51 [some (.ref (e_ad E 0)), some (.int x48)] [] s47
              refine G_goto C 28 dX11_keeps_51 rfl ?_
              exact ih28 (m + 1) x48 s47 (g_cn (a := (m + 1)) Nx48 (by first | rfl | omega | (simp only [List.length_cons, List.length_drop]; done) | (simp only [List.length_cons, List.length_drop]; omega))) (by omega) (fun j hj => by rw [es47, g_up_sj, if_neg (by omega)]; exact ha2 j hj) (fun j hj => by
                rw [es47, g_up_sj]
                by_cases e : j = m
                · rw [if_pos (by omega), e, ex46, fl28 4 (by decide)]
                · rw [if_neg (by omega)]
                  exact hb j (by omega)) f_1 (by omega)
        exact L28 (3 + 1) 0 0 sl2 (g_cn (a := 0) rfl (by first | rfl | omega)) (by omega) (fun j hj => ha j (by omega)) (fun j hj => absurd hj (by omega)) fl2 (by omega)
      ·
        have n5 : k < 24 := (g_ltN (a := k) (b := 24) (hx := Ey) (hy := rfl) (by omega) (by omega)).mp c5
        refine G_aload_n (i := 0) C 9 dX11_keeps_8 rfl rfl rfl ?_
        refine X11_61g C 12 dX11_keeps_9 rfl ?_
        refine G_iload_n (i := 1) C 13 dX11_keeps_12 rfl rfl rfl ?_
        refine G_aload_n (i := 0) C 14 dX11_keeps_13 rfl rfl rfl ?_
        refine X11_16g C 17 dX11_keeps_14 rfl ?_
        refine G_iload_n (i := 1) C 18 dX11_keeps_17 rfl rfl rfl ?_
        refine G_iald (n := 24) C 19 (by decide) (eMk (by decide) _ _ _) (k) Ey (by omega) (by decide) dX11_keeps_18 rfl (fun x18 ex18 => ?_)
        refine G_iast (n := 27) C 20 (by decide) (fun σ => eMk (by decide) _ _ σ) (k) Ey (by omega) (by decide) (Nat.le_refl _) dX11_keeps_19 rfl (fun s19 es19 => ?_)
        have f_1 : Fr (fun q => q = 18) s s19 := Fr.tr fl2 (Fr.up es19 rfl)
        refine G_iinc (w := 1) C 23 dX11_keeps_20 rfl rfl rfl rfl (fun x20 ex20 => ?_)
        have Nx20 : x20 = nI (k + 1) := g_addN ex20 Ey rfl
        show GW SM E _ 23 [some (.ref (e_ad E 0)), some (.int x20)] [] s19
        refine G_goto C 2 dX11_keeps_23 rfl ?_
        exact ih2 (k + 1) x20 s19 (g_cn (a := (k + 1)) Nx20 (by first | rfl | omega | (simp only [List.length_cons, List.length_drop]; done) | (simp only [List.length_cons, List.length_drop]; omega))) (by omega) (fun j hj => by
          rw [es19, g_up_sj]
          by_cases e : j = k
          · rw [if_pos (by omega), e, ex18, fl2 3 (by decide)]
          · rw [if_neg (by omega)]
            exact ha j (by omega)) f_1 (by omega)
  exact L2 (24 + 1) 0 0 s (g_cn (a := 0) rfl (by first | rfl | omega)) (by omega) (fun j hj => absurd hj (by omega)) f (by omega)
theorem dX11_lays_0 : decode cX11_lays 0 = .ok (.iconst 0, 1) := by decide +kernel
theorem dX11_lays_1 : decode cX11_lays 1 = .ok (.istore_n 1, 1) := by decide +kernel
theorem dX11_lays_2 : decode cX11_lays 2 = .ok (.iload_n 1, 1) := by decide +kernel
theorem dX11_lays_3 : decode cX11_lays 3 = .ok (.bipush 24, 2) := by decide +kernel
theorem dX11_lays_5 : decode cX11_lays 5 = .ok (.if_icmp .ge 21, 3) := by decide +kernel
theorem dX11_lays_8 : decode cX11_lays 8 = .ok (.aload_n 0, 1) := by decide +kernel
theorem dX11_lays_9 : decode cX11_lays 9 = .ok (.getfield 16, 3) := by decide +kernel
theorem dX11_lays_12 : decode cX11_lays 12 = .ok (.iload_n 1, 1) := by decide +kernel
theorem dX11_lays_13 : decode cX11_lays 13 = .ok (.aload_n 0, 1) := by decide +kernel
theorem dX11_lays_14 : decode cX11_lays 14 = .ok (.getfield 61, 3) := by decide +kernel
theorem dX11_lays_17 : decode cX11_lays 17 = .ok (.iload_n 1, 1) := by decide +kernel
theorem dX11_lays_18 : decode cX11_lays 18 = .ok (.iaload, 1) := by decide +kernel
theorem dX11_lays_19 : decode cX11_lays 19 = .ok (.iastore, 1) := by decide +kernel
theorem dX11_lays_20 : decode cX11_lays 20 = .ok (.iinc 1 1, 3) := by decide +kernel
theorem dX11_lays_23 : decode cX11_lays 23 = .ok (.goto (-21), 3) := by decide +kernel
theorem dX11_lays_26 : decode cX11_lays 26 = .ok (.iconst 0, 1) := by decide +kernel
theorem dX11_lays_27 : decode cX11_lays 27 = .ok (.istore_n 1, 1) := by decide +kernel
theorem dX11_lays_28 : decode cX11_lays 28 = .ok (.iload_n 1, 1) := by decide +kernel
theorem dX11_lays_29 : decode cX11_lays 29 = .ok (.iconst 3, 1) := by decide +kernel
theorem dX11_lays_30 : decode cX11_lays 30 = .ok (.if_icmp .ge 24, 3) := by decide +kernel
theorem dX11_lays_33 : decode cX11_lays 33 = .ok (.aload_n 0, 1) := by decide +kernel
theorem dX11_lays_34 : decode cX11_lays 34 = .ok (.getfield 19, 3) := by decide +kernel
theorem dX11_lays_37 : decode cX11_lays 37 = .ok (.iload_n 1, 1) := by decide +kernel
theorem dX11_lays_38 : decode cX11_lays 38 = .ok (.aload_n 0, 1) := by decide +kernel
theorem dX11_lays_39 : decode cX11_lays 39 = .ok (.getfield 61, 3) := by decide +kernel
theorem dX11_lays_42 : decode cX11_lays 42 = .ok (.bipush 24, 2) := by decide +kernel
theorem dX11_lays_44 : decode cX11_lays 44 = .ok (.iload_n 1, 1) := by decide +kernel
theorem dX11_lays_45 : decode cX11_lays 45 = .ok (.iadd, 1) := by decide +kernel
theorem dX11_lays_46 : decode cX11_lays 46 = .ok (.iaload, 1) := by decide +kernel
theorem dX11_lays_47 : decode cX11_lays 47 = .ok (.iastore, 1) := by decide +kernel
theorem dX11_lays_48 : decode cX11_lays 48 = .ok (.iinc 1 1, 3) := by decide +kernel
theorem dX11_lays_51 : decode cX11_lays 51 = .ok (.goto (-23), 3) := by decide +kernel
theorem dX11_lays_54 : decode cX11_lays 54 = .ok (.return_, 1) := by decide +kernel
set_option maxHeartbeats 4000000 in
set_option maxRecDepth 100000 in
theorem c_X11_lays (d : Nat) (s : gS) : gMt SM yX11_lays cX11_lays 2 none (d + 1) (fun ad => [.ref (ad 0)]) s (gQv SM (fun s' => Fr (fun q => q = 3 ∨ q = 4) s s' ∧ ly s s')) := by
  refine gMt_of SM_ok (by decide +kernel) (fun ad => [some (.ref (ad 0)), none]) (fun _ => rfl) (fun _ => rfl) (fun _ => Nat.le_of_ble_eq_true rfl) (fun E C0 => ?_)
  have C : gCx SM E RX11 cX11_lays 2 none (d + 1) := C0
  have f : Fr (fun q => q = 3 ∨ q = 4) s s := Fr.rf
  refine G_gz (fun hz => ?_)
  refine G_iconst (v := 0) C 1 dX11_lays_0 rfl rfl ?_
  refine G_istore_n (i := 1) (L' := [some (.ref (e_ad E 0)), some (.int 0)]) C 2 dX11_lays_1 rfl rfl (Nat.le_of_ble_eq_true rfl) rfl rfl ?_
  have L2 : ∀ (f2 : Nat) (k : Nat) (y : Int32) (sl2 : gS) (Ey : y = nI k) (hk : k ≤ 24) (h4 : sl2 4 = s 4) (hc : ∀ j, 24 ≤ j → sl2 3 j = 0) (ha : ∀ j, j < k → sl2 3 j = s 18 j) (fl2 : Fr (fun q => q = 3 ∨ q = 4) s sl2), 24 < k + f2 → GW SM E (gFin SM E (gQv SM (fun s' => Fr (fun q => q = 3 ∨ q = 4) s s' ∧ ly s s'))) 2 [some (.ref (e_ad E 0)), some (.int y)] [] sl2 := by
    intro f2
    induction f2 with
    | zero =>
      intro k y sl2 Ey hk h4 hc ha fl2 hf2
      exact absurd hf2 (by omega)
    | succ f2 ih2 =>
      intro k y sl2 Ey hk h4 hc ha fl2 hf2
      refine G_iload_n (i := 1) C 3 dX11_lays_2 rfl rfl rfl ?_
      refine G_bipush (v := 24) C 5 dX11_lays_3 rfl rfl ?_
      refine G_icmp_ge C 26 8 dX11_lays_5 rfl rfl (fun c5 => ?_) (fun c5 => ?_)
      ·
        have n5 : ¬ k < 24 := fun h => c5 ((g_ltN (a := k) (b := 24) (hx := Ey) (hy := rfl) (by omega) (by omega)).mpr h)
        refine G_iconst (v := 0) C 27 dX11_lays_26 rfl rfl ?_
        refine G_istore_n (i := 1) (L' := [some (.ref (e_ad E 0)), some (.int 0)]) C 28 dX11_lays_27 rfl rfl (Nat.le_of_ble_eq_true rfl) rfl rfl ?_
        have L28 : ∀ (f28 : Nat) (m : Nat) (y : Int32) (sl28 : gS) (Ey : y = nI m) (hm : m ≤ 3) (hc2 : ∀ j, 24 ≤ j → sl28 3 j = 0) (ha2 : ∀ j, j < 24 → sl28 3 j = s 18 j) (hd : ∀ j, 3 ≤ j → sl28 4 j = s 4 j) (hb : ∀ j, j < m → sl28 4 j = s 18 (24 + j)) (fl28 : Fr (fun q => q = 3 ∨ q = 4) s sl28), 3 < m + f28 → GW SM E (gFin SM E (gQv SM (fun s' => Fr (fun q => q = 3 ∨ q = 4) s s' ∧ ly s s'))) 28 [some (.ref (e_ad E 0)), some (.int y)] [] sl28 := by
          intro f28
          induction f28 with
          | zero =>
            intro m y sl28 Ey hm hc2 ha2 hd hb fl28 hf28
            exact absurd hf28 (by omega)
          | succ f28 ih28 =>
            intro m y sl28 Ey hm hc2 ha2 hd hb fl28 hf28
            refine G_iload_n (i := 1) C 29 dX11_lays_28 rfl rfl rfl ?_
            refine G_iconst (v := 3) C 30 dX11_lays_29 rfl rfl ?_
            refine G_icmp_ge C 54 33 dX11_lays_30 rfl rfl (fun c30 => ?_) (fun c30 => ?_)
            ·
              have n30 : ¬ m < 3 := fun h => c30 ((g_ltN (a := m) (b := 3) (hx := Ey) (hy := rfl) (by omega) (by omega)).mpr h)
              exact G_vret C dX11_lays_54 (⟨fl28, ha2, fun j hj => hb j (by omega), hc2, hd⟩)
            ·
              have n30 : m < 3 := (g_ltN (a := m) (b := 3) (hx := Ey) (hy := rfl) (by omega) (by omega)).mp c30
              refine G_aload_n (i := 0) C 34 dX11_lays_33 rfl rfl rfl ?_
              refine X11_19g C 37 dX11_lays_34 rfl ?_
              refine G_iload_n (i := 1) C 38 dX11_lays_37 rfl rfl rfl ?_
              refine G_aload_n (i := 0) C 39 dX11_lays_38 rfl rfl rfl ?_
              refine X11_61g C 42 dX11_lays_39 rfl ?_
              refine G_bipush (v := 24) C 44 dX11_lays_42 rfl rfl ?_
              refine G_iload_n (i := 1) C 45 dX11_lays_44 rfl rfl rfl ?_
              refine G_iadd C 46 dX11_lays_45 rfl (fun x45 ex45 => ?_)
              have Nx45 : x45 = nI (24 + m) := g_addN ex45 rfl Ey
              refine G_iald (n := 27) C 47 (by decide) (eMk (by decide) _ _ _) ((24 + m)) Nx45 (by omega) (by decide) dX11_lays_46 rfl (fun x46 ex46 => ?_)
              refine G_iast (n := 13) C 48 (by decide) (fun σ => eMk (by decide) _ _ σ) (m) Ey (by omega) (by decide) (Nat.le_refl _) dX11_lays_47 rfl (fun s47 es47 => ?_)
              have f_1 : Fr (fun q => q = 3 ∨ q = 4) s s47 := Fr.tr fl28 (Fr.up es47 (by decide))
              refine G_iinc (w := 1) C 51 dX11_lays_48 rfl rfl rfl rfl (fun x48 ex48 => ?_)
              have Nx48 : x48 = nI (m + 1) := g_addN ex48 Ey rfl
              show GW SM E _ 51 [some (.ref (e_ad E 0)), some (.int x48)] [] s47
              refine G_goto C 28 dX11_lays_51 rfl ?_
              exact ih28 (m + 1) x48 s47 (g_cn (a := (m + 1)) Nx48 (by first | rfl | omega | (simp only [List.length_cons, List.length_drop]; done) | (simp only [List.length_cons, List.length_drop]; omega))) (by omega) (fun j hj => by rw [es47, g_up_n (by decide)]; exact hc2 j hj) (fun j hj => by rw [es47, g_up_n (by decide)]; exact ha2 j hj) (fun j hj => by rw [es47, g_up_sj, if_neg (by omega)]; exact hd j hj) (fun j hj => by
                rw [es47, g_up_sj]
                by_cases e : j = m
                · rw [if_pos (by omega), e, ex46, fl28 18 (by decide)]
                · rw [if_neg (by omega)]
                  exact hb j (by omega)) f_1 (by omega)
        exact L28 (3 + 1) 0 0 sl2 (g_cn (a := 0) rfl (by first | rfl | omega)) (by omega) (hc) (fun j hj => ha j (by omega)) (fun j _ => congrFun h4 j) (fun j hj => absurd hj (by omega)) fl2 (by omega)
      ·
        have n5 : k < 24 := (g_ltN (a := k) (b := 24) (hx := Ey) (hy := rfl) (by omega) (by omega)).mp c5
        refine G_aload_n (i := 0) C 9 dX11_lays_8 rfl rfl rfl ?_
        refine X11_16g C 12 dX11_lays_9 rfl ?_
        refine G_iload_n (i := 1) C 13 dX11_lays_12 rfl rfl rfl ?_
        refine G_aload_n (i := 0) C 14 dX11_lays_13 rfl rfl rfl ?_
        refine X11_61g C 17 dX11_lays_14 rfl ?_
        refine G_iload_n (i := 1) C 18 dX11_lays_17 rfl rfl rfl ?_
        refine G_iald (n := 27) C 19 (by decide) (eMk (by decide) _ _ _) (k) Ey (by omega) (by decide) dX11_lays_18 rfl (fun x18 ex18 => ?_)
        refine G_iast (n := 24) C 20 (by decide) (fun σ => eMk (by decide) _ _ σ) (k) Ey (by omega) (by decide) (Nat.le_refl _) dX11_lays_19 rfl (fun s19 es19 => ?_)
        have f_1 : Fr (fun q => q = 3 ∨ q = 4) s s19 := Fr.tr fl2 (Fr.up es19 (by decide))
        refine G_iinc (w := 1) C 23 dX11_lays_20 rfl rfl rfl rfl (fun x20 ex20 => ?_)
        have Nx20 : x20 = nI (k + 1) := g_addN ex20 Ey rfl
        show GW SM E _ 23 [some (.ref (e_ad E 0)), some (.int x20)] [] s19
        refine G_goto C 2 dX11_lays_23 rfl ?_
        exact ih2 (k + 1) x20 s19 (g_cn (a := (k + 1)) Nx20 (by first | rfl | omega | (simp only [List.length_cons, List.length_drop]; done) | (simp only [List.length_cons, List.length_drop]; omega))) (by omega) (by rw [es19, g_up_n (by decide)]; exact h4) (fun j hj => by rw [es19, g_up_sj, if_neg (by omega)]; exact hc j hj) (fun j hj => by
          rw [es19, g_up_sj]
          by_cases e : j = k
          · rw [if_pos (by omega), e, ex18, fl2 18 (by decide)]
          · rw [if_neg (by omega)]
            exact ha j (by omega)) f_1 (by omega)
  exact L2 (24 + 1) 0 0 s (g_cn (a := 0) rfl (by first | rfl | omega)) (by omega) (rfl) (fun j hj => gz_m hz (k := 3) hj) (fun j hj => absurd hj (by omega)) f (by omega)
theorem dX11_goes_0 : decode cX11_goes 0 = .ok (.iconst 0, 1) := by decide +kernel
theorem dX11_goes_1 : decode cX11_goes 1 = .ok (.istore_n 2, 1) := by decide +kernel
theorem dX11_goes_2 : decode cX11_goes 2 = .ok (.iconst 0, 1) := by decide +kernel
theorem dX11_goes_3 : decode cX11_goes 3 = .ok (.istore_n 3, 1) := by decide +kernel
theorem dX11_goes_4 : decode cX11_goes 4 = .ok (.iload_n 3, 1) := by decide +kernel
theorem dX11_goes_5 : decode cX11_goes 5 = .ok (.iload_n 1, 1) := by decide +kernel
theorem dX11_goes_6 : decode cX11_goes 6 = .ok (.if_icmp .ge 25, 3) := by decide +kernel
theorem dX11_goes_9 : decode cX11_goes 9 = .ok (.iload_n 2, 1) := by decide +kernel
theorem dX11_goes_10 : decode cX11_goes 10 = .ok (.aload_n 0, 1) := by decide +kernel
theorem dX11_goes_11 : decode cX11_goes 11 = .ok (.invokevirtual 209, 3) := by decide +kernel
theorem dX11_goes_14 : decode cX11_goes 14 = .ok (.iconst (-1), 1) := by decide +kernel
theorem dX11_goes_15 : decode cX11_goes 15 = .ok (.if_icmp .ne 7, 3) := by decide +kernel
theorem dX11_goes_18 : decode cX11_goes 18 = .ok (.iconst 0, 1) := by decide +kernel
theorem dX11_goes_19 : decode cX11_goes 19 = .ok (.goto 4, 3) := by decide +kernel
theorem dX11_goes_22 : decode cX11_goes 22 = .ok (.iconst 1, 1) := by decide +kernel
theorem dX11_goes_23 : decode cX11_goes 23 = .ok (.iadd, 1) := by decide +kernel
theorem dX11_goes_24 : decode cX11_goes 24 = .ok (.istore_n 2, 1) := by decide +kernel
theorem dX11_goes_25 : decode cX11_goes 25 = .ok (.iinc 3 1, 3) := by decide +kernel
theorem dX11_goes_28 : decode cX11_goes 28 = .ok (.goto (-24), 3) := by decide +kernel
theorem dX11_goes_31 : decode cX11_goes 31 = .ok (.iload_n 2, 1) := by decide +kernel
theorem dX11_goes_32 : decode cX11_goes 32 = .ok (.ireturn, 1) := by decide +kernel
set_option maxHeartbeats 4000000 in
set_option maxRecDepth 100000 in
theorem c_X11_goes (d : Nat) (TX : gTX) (nT n l : Nat) (P s : gS) (hI : mI TX nT n l P s) (x : Int32) (m : Nat) (hx : x = nI m) (hm : m ≤ 1000) : gMt SM yX11_goes cX11_goes 4 (some .int) (d + 10) (fun ad => [.ref (ad 0), .int x]) s (gQi SM (fun r s' => Fr mH s s' ∧ mI TX nT n l (x_run TX m P) s' ∧ r = x_cr TX m P)) := by
  have hn6 : n ≤ 6 := hI.2.1.2.1
  have hl6 : l < 6 := mI_l6 hI
  refine gMt_of SM_ok (by decide +kernel) (fun ad => [some (.ref (ad 0)), some (.int x), none, none]) (fun _ => rfl) (fun _ => rfl) (fun _ => Nat.le_of_ble_eq_true rfl) (fun E C0 => ?_)
  have C : gCx SM E RX11 cX11_goes 4 (some .int) (d + 10) := C0
  have i : mI TX nT n l P s := hI
  have f : Fr mH s s := Fr.rf
  refine G_iconst (v := 0) C 1 dX11_goes_0 rfl rfl ?_
  refine G_istore_n (i := 2) (L' := [some (.ref (e_ad E 0)), some (.int x), some (.int 0), none]) C 2 dX11_goes_1 rfl rfl (Nat.le_of_ble_eq_true rfl) rfl rfl ?_
  refine G_iconst (v := 0) C 3 dX11_goes_2 rfl rfl ?_
  refine G_istore_n (i := 3) (L' := [some (.ref (e_ad E 0)), some (.int x), some (.int 0), some (.int 0)]) C 4 dX11_goes_3 rfl rfl (Nat.le_of_ble_eq_true rfl) rfl rfl ?_
  have L4 : ∀ (f4 : Nat) (k : Nat) (a y : Int32) (sl4 : gS) (Ey : y = nI k) (hk : k ≤ m) (ha : a = x_cr TX k P) (il4 : mI TX nT n l (x_run TX k P) sl4) (fl4 : Fr mH s sl4), m < k + f4 → GW SM E (gFin SM E (gQi SM (fun r s' => Fr mH s s' ∧ mI TX nT n l (x_run TX m P) s' ∧ r = x_cr TX m P))) 4 [some (.ref (e_ad E 0)), some (.int x), some (.int a), some (.int y)] [] sl4 := by
    intro f4
    induction f4 with
    | zero =>
      intro k a y sl4 Ey hk ha il4 fl4 hf4
      exact absurd hf4 (by omega)
    | succ f4 ih4 =>
      intro k a y sl4 Ey hk ha il4 fl4 hf4
      refine G_iload_n (i := 3) C 5 dX11_goes_4 rfl rfl rfl ?_
      refine G_iload_n (i := 1) C 6 dX11_goes_5 rfl rfl rfl ?_
      refine G_icmp_ge C 31 9 dX11_goes_6 rfl rfl (fun c6 => ?_) (fun c6 => ?_)
      ·
        have n6 : ¬ k < m := fun h => c6 ((g_ltN (a := k) (b := m) (hx := Ey) (hy := hx) (by omega) (by omega)).mpr h)
        refine G_iload_n (i := 2) C 32 dX11_goes_31 rfl rfl rfl ?_
        exact G_iret C dX11_goes_32 (⟨fl4, by have e : k = m := (by omega); subst e; exact ⟨il4, ha⟩⟩)
      ·
        have n6 : k < m := (g_ltN (a := k) (b := m) (hx := Ey) (hy := hx) (by omega) (by omega)).mp c6
        refine G_iload_n (i := 2) C 10 dX11_goes_9 rfl rfl rfl ?_
        refine G_aload_n (i := 0) C 11 dX11_goes_10 rfl rfl rfl ?_
        refine G_calli 14 (G_runV C Kc_X11_hourOf KV_X11_209 (by omega) (by decide) (eM _ _ _) rfl (c_X11_hourOf 0 TX nT n l (x_run TX k P) sl4 il4) rfl rfl rfl (Nat.le_of_ble_eq_true rfl) rfl dX11_goes_11) rfl (fun x11 s11 h11 => ?_)
        have i_1 : mI TX nT n l (x_run TX (k + 1) P) s11 := h11.2.1
        have f_1 : Fr mH s s11 := Fr.tr fl4 h11.1
        refine G_iconst (v := (-1)) C 15 dX11_goes_14 rfl rfl ?_
        refine G_icmp_ne C 22 18 dX11_goes_15 rfl rfl (fun c15 => ?_) (fun c15 => ?_)
        ·
          refine G_iconst (v := 1) C 23 dX11_goes_22 rfl rfl ?_
          refine G_iadd C 24 dX11_goes_23 rfl (fun x23 ex23 => ?_)
          refine G_istore_n (i := 2) (L' := [some (.ref (e_ad E 0)), some (.int x), some (.int x23), some (.int y)]) C 25 dX11_goes_24 rfl rfl (Nat.le_of_ble_eq_true rfl) rfl rfl ?_
          refine G_iinc (w := 1) C 28 dX11_goes_25 rfl rfl rfl rfl (fun x25 ex25 => ?_)
          have Nx25 : x25 = nI (k + 1) := g_addN ex25 Ey rfl
          show GW SM E _ 28 [some (.ref (e_ad E 0)), some (.int x), some (.int x23), some (.int x25)] [] s11
          refine G_goto C 4 dX11_goes_28 rfl ?_
          exact ih4 (k + 1) x23 x25 s11 (g_cn (a := (k + 1)) Nx25 (by first | rfl | omega | (simp only [List.length_cons, List.length_drop]; done) | (simp only [List.length_cons, List.length_drop]; omega))) (by omega) (by rw [x_cr, if_neg (by rw [← h11.2.2]; exact c15), ex23, ha]) (i_1) f_1 (by omega)
        ·
          refine G_iconst (v := 0) C 19 dX11_goes_18 rfl rfl ?_
          refine G_goto C 23 dX11_goes_19 rfl ?_
          refine G_iadd C 24 dX11_goes_23 rfl (fun x23 ex23 => ?_)
          refine G_istore_n (i := 2) (L' := [some (.ref (e_ad E 0)), some (.int x), some (.int x23), some (.int y)]) C 25 dX11_goes_24 rfl rfl (Nat.le_of_ble_eq_true rfl) rfl rfl ?_
          refine G_iinc (w := 1) C 28 dX11_goes_25 rfl rfl rfl rfl (fun x25 ex25 => ?_)
          have Nx25 : x25 = nI (k + 1) := g_addN ex25 Ey rfl
          show GW SM E _ 28 [some (.ref (e_ad E 0)), some (.int x), some (.int x23), some (.int x25)] [] s11
          refine G_goto C 4 dX11_goes_28 rfl ?_
          exact ih4 (k + 1) x23 x25 s11 (g_cn (a := (k + 1)) Nx25 (by first | rfl | omega | (simp only [List.length_cons, List.length_drop]; done) | (simp only [List.length_cons, List.length_drop]; omega))) (by omega) (by rw [x_cr, if_pos (h11.2.2.symm.trans c15), ex23, ha]; exact Int32.add_zero _) (i_1) f_1 (by omega)
  exact L4 (m + 1) 0 0 0 s (g_cn (a := 0) rfl (by first | rfl | omega)) (by omega) (rfl) (i) f (by omega)
