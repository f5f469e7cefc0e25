theorem l_cn {x : Int64} {a b : Nat} (h : x = lN a) (e : a = b) : x = lN b := by rw [h, e]
theorem y_oneG {x : Int32} {n : Nat} (h6 : n ≤ 1000) : x_in x 0 (nI n - 1) = x_one x n := by
  unfold x_in x_one
  by_cases h : x < 0
  · rw [if_pos h, if_pos h]
  · rw [if_neg h, if_neg h]
    obtain ⟨j, hj, rfl⟩ := nI_of h
    have e : (nI n - 1).toInt = (n : Int) - 1 := by
      have := pk_sub_toInt (a := n) (b := 1) (by omega) (by omega)
      exact this
    have e2 : nI n - 1 < nI j ↔ n < j + 1 := by
      rw [Int32.lt_iff_toInt_lt, e, nI_toInt hj]
      omega
    have e3 : nI j < nI n ↔ j < n := nI_ltI hj (by omega)
    by_cases h2 : j < n
    · rw [if_neg (fun q => by have := e2.mp q; omega), if_pos (e3.mpr h2)]
    · rw [if_pos (e2.mpr (by omega)), if_neg (fun q => h2 (e3.mp q))]
theorem x_oneL {j n : Nat} (h : j < n) (hn : n ≤ 1000) : x_one (nI j) n = 1 := by
  unfold x_one
  rw [if_neg (nI_pos (by omega)), if_pos ((nI_ltI (by omega) (by omega)).mpr h)]
theorem x_oneG {x : Int32} {n : Nat} (hn : n ≤ 1000) (h : ¬ x_one x n = 0) : ∃ k, k < n ∧ x = nI k := by
  unfold x_one at h
  by_cases h0 : x < 0
  · rw [if_pos h0] at h
    exact absurd rfl h
  · rw [if_neg h0] at h
    obtain ⟨j, hj, rfl⟩ := nI_of h0
    by_cases h1 : nI j < nI n
    · exact ⟨j, (nI_ltI hj (by omega)).mp h1, rfl⟩
    · rw [if_neg h1] at h
      exact absurd rfl h
theorem x_inS {i : Int32} {z : Nat} (hz : z ≤ 1000) (h : ¬ x_in i 0 (nI z - 1) = 0) : ∃ k, k < z ∧ i = nI k := x_oneG hz (by rw [← y_oneG hz]; exact h)
def mSh (u k : Nat) : Prop := k = 30 + 2 * u ∨ k = 30 + 2 * u + 1
theorem Fr.shQ {u : Nat} {a b : gS} (h : Fr (mSh u) a b) : Fr (mQs u) a b := h.mono (fun k hk => Or.inr hk)
theorem Fr.qQs {u : Nat} {a b : gS} (h : Fr mQ a b) : Fr (mQs u) a b := h.mono (fun k hk => Or.inl hk)
theorem Fr.sh1 {u : Nat} {a b : gS} (h : Fr (fun q => q = 30 + 2 * u + 1) a b) : Fr (mSh u) a b := h.mono (fun k hk => Or.inr hk)
theorem g_dn99 {y : Int32} {k : Nat} (hk : k ≤ 100) (h : y = nI 99 - nI k) : (y < 0 ↔ k = 100) ∧ (k < 100 → y = nI (99 - k)) := by
  have e : k < 100 → y = nI (99 - k) := fun q => by rw [h, pk_sub (by omega)]
  refine ⟨⟨fun q => ?_, fun q => ?_⟩, e⟩
  · rcases Nat.lt_or_ge k 100 with r | r
    · rw [e r] at q
      exact absurd q (nI_pos (by omega))
    · omega
  · subst q
    rw [h]
    decide
theorem dJ7_fill_53178_0 : decode cJ7_fill_53178 0 = .ok (.iconst 0, 1) := by decide +kernel
theorem dJ7_fill_53178_1 : decode cJ7_fill_53178 1 = .ok (.istore_n 2, 1) := by decide +kernel
theorem dJ7_fill_53178_2 : decode cJ7_fill_53178 2 = .ok (.aload_n 0, 1) := by decide +kernel
theorem dJ7_fill_53178_3 : decode cJ7_fill_53178 3 = .ok (.arraylength, 1) := by decide +kernel
theorem dJ7_fill_53178_4 : decode cJ7_fill_53178 4 = .ok (.istore_n 3, 1) := by decide +kernel
theorem dJ7_fill_53178_5 : decode cJ7_fill_53178 5 = .ok (.iload_n 2, 1) := by decide +kernel
theorem dJ7_fill_53178_6 : decode cJ7_fill_53178 6 = .ok (.iload_n 3, 1) := by decide +kernel
theorem dJ7_fill_53178_7 : decode cJ7_fill_53178 7 = .ok (.if_icmp .ge 13, 3) := by decide +kernel
theorem dJ7_fill_53178_10 : decode cJ7_fill_53178 10 = .ok (.aload_n 0, 1) := by decide +kernel
theorem dJ7_fill_53178_11 : decode cJ7_fill_53178 11 = .ok (.iload_n 2, 1) := by decide +kernel
theorem dJ7_fill_53178_12 : decode cJ7_fill_53178 12 = .ok (.iload_n 1, 1) := by decide +kernel
theorem dJ7_fill_53178_13 : decode cJ7_fill_53178 13 = .ok (.iastore, 1) := by decide +kernel
theorem dJ7_fill_53178_14 : decode cJ7_fill_53178 14 = .ok (.iinc 2 1, 3) := by decide +kernel
theorem dJ7_fill_53178_17 : decode cJ7_fill_53178 17 = .ok (.goto (-12), 3) := by decide +kernel
theorem dJ7_fill_53178_20 : decode cJ7_fill_53178 20 = .ok (.return_, 1) := by decide +kernel
set_option maxHeartbeats 4000000 in
set_option maxRecDepth 100000 in
theorem c_J7_fill_53178 (d u : Nat) (hu : u < 4) (s : gS) : gMt SC yJ7_fill_53178 cJ7_fill_53178 4 none (d + 1) (fun ad => [.ref (ad ((30 + 2 * u) + 1)), .int 0]) s (gQv SC (fun s' => Fr (fun q => q = 30 + 2 * u + 1) s s' ∧ ∀ j, j < 40 → s' (30 + 2 * u + 1) j = 0)) := by
  refine gMt_of SC_ok (by decide +kernel) (fun ad => [some (.ref (ad ((30 + 2 * u) + 1))), some (.int 0), none, none]) (fun _ => rfl) (fun _ => rfl) (fun _ => Nat.le_of_ble_eq_true rfl) (fun E C0 => ?_)
  have C : gCx SC E RJ7 cJ7_fill_53178 4 none (d + 1) := C0
  have f : Fr (fun q => q = 30 + 2 * u + 1) s s := Fr.rf
  refine G_iconst (v := 0) C 1 dJ7_fill_53178_0 rfl rfl ?_
  refine G_istore_n (i := 2) (L' := [some (.ref (e_ad E ((30 + 2 * u) + 1))), some (.int 0), some (.int 0), none]) C 2 dJ7_fill_53178_1 rfl rfl (Nat.le_of_ble_eq_true rfl) rfl rfl ?_
  refine G_aload_n (i := 0) C 3 dJ7_fill_53178_2 rfl rfl rfl ?_
  refine G_alen (n := 40) C 4 (lS hu (by decide)) (eSn _ _ _ hu) dJ7_fill_53178_3 rfl ?_
  refine G_istore_n (i := 3) (L' := [some (.ref (e_ad E ((30 + 2 * u) + 1))), some (.int 0), some (.int 0), some (.int (nI 40))]) C 5 dJ7_fill_53178_4 rfl rfl (Nat.le_of_ble_eq_true rfl) rfl rfl ?_
  have L5 : ∀ (f5 : Nat) (k : Nat) (y : Int32) (sl5 : gS) (Ey : y = nI k) (hk : k ≤ 40) (ha : ∀ j, j < k → sl5 (30 + 2 * u + 1) j = 0) (fl5 : Fr (fun q => q = 30 + 2 * u + 1) s sl5), 40 < k + f5 → GW SC E (gFin SC E (gQv SC (fun s' => Fr (fun q => q = 30 + 2 * u + 1) s s' ∧ ∀ j, j < 40 → s' (30 + 2 * u + 1) j = 0))) 5 [some (.ref (e_ad E ((30 + 2 * u) + 1))), some (.int 0), some (.int y), some (.int (nI 40))] [] sl5 := by
    intro f5
    induction f5 with
    | zero =>
      intro k y sl5 Ey hk ha fl5 hf5
      exact absurd hf5 (by omega)
    | succ f5 ih5 =>
      intro k y sl5 Ey hk ha fl5 hf5
      refine G_iload_n (i := 2) C 6 dJ7_fill_53178_5 rfl rfl rfl ?_
      refine G_iload_n (i := 3) C 7 dJ7_fill_53178_6 rfl rfl rfl ?_
      refine G_icmp_ge C 20 10 dJ7_fill_53178_7 rfl rfl (fun c7 => ?_) (fun c7 => ?_)
      ·
        have n7 : ¬ k < 40 := fun h => c7 ((g_ltN (a := k) (b := 40) (hx := Ey) (hy := rfl) (by omega) (by omega)).mpr h)
        exact G_vret C dJ7_fill_53178_20 (⟨fl5, fun j hj => ha j (by omega)⟩)
      ·
        have n7 : k < 40 := (g_ltN (a := k) (b := 40) (hx := Ey) (hy := rfl) (by omega) (by omega)).mp c7
        refine G_aload_n (i := 0) C 11 dJ7_fill_53178_10 rfl rfl rfl ?_
        refine G_iload_n (i := 2) C 12 dJ7_fill_53178_11 rfl rfl rfl ?_
        refine G_iload_n (i := 1) C 13 dJ7_fill_53178_12 rfl rfl rfl ?_
        refine G_iast (n := 40) C 14 (lS hu (by decide)) (fun σ => eSn _ _ σ hu) (k) Ey (by omega) (by decide) (Nat.le_of_eq (nS1 hu).symm) dJ7_fill_53178_13 rfl (fun s13 es13 => ?_)
        have f_1 : Fr (fun q => q = 30 + 2 * u + 1) s s13 := Fr.tr fl5 (Fr.up es13 rfl)
        refine G_iinc (w := 1) C 17 dJ7_fill_53178_14 rfl rfl rfl rfl (fun x14 ex14 => ?_)
        have Nx14 : x14 = nI (k + 1) := g_addN ex14 Ey rfl
        show GW SC E _ 17 [some (.ref (e_ad E ((30 + 2 * u) + 1))), some (.int 0), some (.int x14), some (.int (nI 40))] [] s13
        refine G_goto C 5 dJ7_fill_53178_17 rfl ?_
        exact ih5 (k + 1) x14 s13 (g_cn (a := (k + 1)) Nx14 (by first | rfl | omega | (simp only [List.length_cons, List.length_drop]; done) | (simp only [List.length_cons, List.length_drop]; omega))) (by omega) (fun j hj => by
          rw [es13, g_up_sj]
          by_cases e : j = k
          · rw [if_pos (by omega)]
          · rw [if_neg (by omega)]
            exact ha j (by omega)) f_1 (by omega)
  exact L5 (40 + 1) 0 0 s (g_cn (a := 0) rfl (by first | rfl | omega)) (by omega) (fun j hj => absurd hj (by omega)) f (by omega)
theorem dX4_become_0 : decode cX4_become 0 = .ok (.aload_n 0, 1) := by decide +kernel
theorem dX4_become_1 : decode cX4_become 1 = .ok (.iload_n 1, 1) := by decide +kernel
theorem dX4_become_2 : decode cX4_become 2 = .ok (.putfield 15, 3) := by decide +kernel
theorem dX4_become_5 : decode cX4_become 5 = .ok (.aload_n 0, 1) := by decide +kernel
theorem dX4_become_6 : decode cX4_become 6 = .ok (.iload_n 2, 1) := by decide +kernel
theorem dX4_become_7 : decode cX4_become 7 = .ok (.putfield 19, 3) := by decide +kernel
theorem dX4_become_10 : decode cX4_become 10 = .ok (.aload_n 0, 1) := by decide +kernel
theorem dX4_become_11 : decode cX4_become 11 = .ok (.getfield 9, 3) := by decide +kernel
theorem dX4_become_14 : decode cX4_become 14 = .ok (.iconst 0, 1) := by decide +kernel
theorem dX4_become_15 : decode cX4_become 15 = .ok (.invokestatic 22, 3) := by decide +kernel
theorem dX4_become_18 : decode cX4_become 18 = .ok (.return_, 1) := by decide +kernel
set_option maxHeartbeats 4000000 in
set_option maxRecDepth 100000 in
theorem c_X4_become (d u : Nat) (hu : u < 4) (q m : Int32) (s : gS) : gMt SC yX4_become cX4_become 3 none (d + 2) (fun ad => [.ref (ad (30 + 2 * u)), .int q, .int m]) s (gQv SC (fun s' => Fr (mSh u) s s' ∧ s' (30 + 2 * u) 1 = q ∧ s' (30 + 2 * u) 2 = m ∧ ∀ j, j < 40 → s' (30 + 2 * u + 1) j = 0)) := by
  refine gMt_of SC_ok (by decide +kernel) (fun ad => [some (.ref (ad (30 + 2 * u))), some (.int q), some (.int m)]) (fun _ => rfl) (fun _ => rfl) (fun _ => Nat.le_of_ble_eq_true rfl) (fun E C0 => ?_)
  have C : gCx SC E RX4 cX4_become 3 none (d + 2) := C0
  refine G_aload_n (i := 0) C 1 dX4_become_0 rfl rfl rfl ?_
  refine G_iload_n (i := 1) C 2 dX4_become_1 rfl rfl rfl ?_
  refine X4_15p C hu 5 dX4_become_2 rfl (fun s2 es2 => ?_)
  refine G_aload_n (i := 0) C 6 dX4_become_5 rfl rfl rfl ?_
  refine G_iload_n (i := 2) C 7 dX4_become_6 rfl rfl rfl ?_
  refine X4_19p C hu 10 dX4_become_7 rfl (fun s7 es7 => ?_)
  refine G_aload_n (i := 0) C 11 dX4_become_10 rfl rfl rfl ?_
  refine X4_9g C hu 14 dX4_become_11 rfl ?_
  refine G_iconst (v := 0) C 15 dX4_become_14 rfl rfl ?_
  refine G_callv 18 (G_runS C Kc_J7_fill_53178 KS_X4_22 (by omega) (c_J7_fill_53178 0 u hu s7) rfl rfl (Nat.le_of_ble_eq_true rfl) rfl dX4_become_15) rfl (fun s15 h15 => ?_)
  exact G_vret C dX4_become_18 (⟨Fr.tr (Fr.up es2 (Or.inl rfl)) (Fr.tr (Fr.up es7 (Or.inl rfl)) (Fr.sh1 h15.1)), by rw [h15.1 _ (by omega), es7, g_up_sj, if_neg (by decide), es2, g_up_sj, if_pos rfl], by rw [h15.1 _ (by omega), es7, g_up_sj, if_pos rfl], h15.2⟩)
theorem dX4_holds_0 : decode cX4_holds 0 = .ok (.iload_n 1, 1) := by decide +kernel
theorem dX4_holds_1 : decode cX4_holds 1 = .ok (.ifCond .lt 21, 3) := by decide +kernel
theorem dX4_holds_4 : decode cX4_holds 4 = .ok (.iload_n 2, 1) := by decide +kernel
theorem dX4_holds_5 : decode cX4_holds 5 = .ok (.ifCond .lt 17, 3) := by decide +kernel
theorem dX4_holds_8 : decode cX4_holds 8 = .ok (.iload_n 1, 1) := by decide +kernel
theorem dX4_holds_9 : decode cX4_holds 9 = .ok (.aload_n 0, 1) := by decide +kernel
theorem dX4_holds_10 : decode cX4_holds 10 = .ok (.getfield 19, 3) := by decide +kernel
theorem dX4_holds_13 : decode cX4_holds 13 = .ok (.iload_n 2, 1) := by decide +kernel
theorem dX4_holds_14 : decode cX4_holds 14 = .ok (.isub, 1) := by decide +kernel
theorem dX4_holds_15 : decode cX4_holds 15 = .ok (.if_icmp .gt 7, 3) := by decide +kernel
theorem dX4_holds_18 : decode cX4_holds 18 = .ok (.iconst 1, 1) := by decide +kernel
theorem dX4_holds_19 : decode cX4_holds 19 = .ok (.goto 4, 3) := by decide +kernel
theorem dX4_holds_22 : decode cX4_holds 22 = .ok (.iconst 0, 1) := by decide +kernel
theorem dX4_holds_23 : decode cX4_holds 23 = .ok (.ireturn, 1) := by decide +kernel
set_option maxHeartbeats 4000000 in
set_option maxRecDepth 100000 in
theorem c_X4_holds (d u : Nat) (hu : u < 4) (i m : Int32) (s : gS) : gMt SC yX4_holds cX4_holds 3 (some .boolean) (d + 1) (fun ad => [.ref (ad (30 + 2 * u)), .int i, .int m]) s (gQi SC (fun r s' => s' = s ∧ r = x_hol (s (30 + 2 * u) 2) i m)) := by
  refine gMt_of SC_ok (by decide +kernel) (fun ad => [some (.ref (ad (30 + 2 * u))), some (.int i), some (.int m)]) (fun _ => rfl) (fun _ => rfl) (fun _ => Nat.le_of_ble_eq_true rfl) (fun E C0 => ?_)
  have C : gCx SC E RX4 cX4_holds 3 (some .boolean) (d + 1) := C0
  refine G_iload_n (i := 1) C 1 dX4_holds_0 rfl rfl rfl ?_
  refine G_if_lt C 22 4 dX4_holds_1 rfl rfl (fun c1 => ?_) (fun c1 => ?_)
  ·
    refine G_iconst (v := 0) C 23 dX4_holds_22 rfl rfl ?_
    exact G_zret C rfl dX4_holds_23 (⟨rfl, by unfold x_hol; rw [if_pos c1]⟩)
  ·
    refine G_iload_n (i := 2) C 5 dX4_holds_4 rfl rfl rfl ?_
    refine G_if_lt C 22 8 dX4_holds_5 rfl rfl (fun c5 => ?_) (fun c5 => ?_)
    ·
      refine G_iconst (v := 0) C 23 dX4_holds_22 rfl rfl ?_
      exact G_zret C rfl dX4_holds_23 (⟨rfl, by unfold x_hol; rw [if_neg c1, if_pos c5]⟩)
    ·
      refine G_iload_n (i := 1) C 9 dX4_holds_8 rfl rfl rfl ?_
      refine G_aload_n (i := 0) C 10 dX4_holds_9 rfl rfl rfl ?_
      refine X4_19g C hu 13 dX4_holds_10 rfl (fun x10 ex10 => ?_)
      refine G_iload_n (i := 2) C 14 dX4_holds_13 rfl rfl rfl ?_
      refine G_isub C 15 dX4_holds_14 rfl (fun x14 ex14 => ?_)
      refine G_icmp_gt C 22 18 dX4_holds_15 rfl rfl (fun c15 => ?_) (fun c15 => ?_)
      ·
        refine G_iconst (v := 0) C 23 dX4_holds_22 rfl rfl ?_
        exact G_zret C rfl dX4_holds_23 (⟨rfl, by unfold x_hol; rw [if_neg c1, if_neg c5, if_pos (by rw [← ex10, ← ex14]; exact c15)]⟩)
      ·
        refine G_iconst (v := 1) C 19 dX4_holds_18 rfl rfl ?_
        refine G_goto C 23 dX4_holds_19 rfl ?_
        exact G_zret C rfl dX4_holds_23 (⟨rfl, by unfold x_hol; rw [if_neg c1, if_neg c5, if_neg (by rw [← ex10, ← ex14]; exact c15)]⟩)
theorem dX4_set_0 : decode cX4_set 0 = .ok (.iload_n 1, 1) := by decide +kernel
theorem dX4_set_1 : decode cX4_set 1 = .ok (.iconst 0, 1) := by decide +kernel
theorem dX4_set_2 : decode cX4_set 2 = .ok (.aload_n 0, 1) := by decide +kernel
theorem dX4_set_3 : decode cX4_set 3 = .ok (.getfield 19, 3) := by decide +kernel
theorem dX4_set_6 : decode cX4_set 6 = .ok (.iconst 1, 1) := by decide +kernel
theorem dX4_set_7 : decode cX4_set 7 = .ok (.isub, 1) := by decide +kernel
theorem dX4_set_8 : decode cX4_set 8 = .ok (.invokestatic 28, 3) := by decide +kernel
theorem dX4_set_11 : decode cX4_set 11 = .ok (.ifCond .eq 35, 3) := by decide +kernel
theorem dX4_set_14 : decode cX4_set 14 = .ok (.aload_n 0, 1) := by decide +kernel
theorem dX4_set_15 : decode cX4_set 15 = .ok (.getfield 9, 3) := by decide +kernel
theorem dX4_set_18 : decode cX4_set 18 = .ok (.iload_n 1, 1) := by decide +kernel
theorem dX4_set_19 : decode cX4_set 19 = .ok (.aload_n 0, 1) := by decide +kernel
theorem dX4_set_20 : decode cX4_set 20 = .ok (.getfield 15, 3) := by decide +kernel
theorem dX4_set_23 : decode cX4_set 23 = .ok (.ifCond .ne 8, 3) := by decide +kernel
theorem dX4_set_26 : decode cX4_set 26 = .ok (.iload_n 2, 1) := by decide +kernel
theorem dX4_set_27 : decode cX4_set 27 = .ok (.i2b, 1) := by decide +kernel
theorem dX4_set_28 : decode cX4_set 28 = .ok (.goto 17, 3) := by decide +kernel
theorem dX4_set_31 : decode cX4_set 31 = .ok (.aload_n 0, 1) := by decide +kernel
theorem dX4_set_32 : decode cX4_set 32 = .ok (.getfield 15, 3) := by decide +kernel
theorem dX4_set_35 : decode cX4_set 35 = .ok (.iconst 1, 1) := by decide +kernel
theorem dX4_set_36 : decode cX4_set 36 = .ok (.if_icmp .ne 8, 3) := by decide +kernel
theorem dX4_set_39 : decode cX4_set 39 = .ok (.iload_n 2, 1) := by decide +kernel
theorem dX4_set_40 : decode cX4_set 40 = .ok (.i2s, 1) := by decide +kernel
theorem dX4_set_41 : decode cX4_set 41 = .ok (.goto 4, 3) := by decide +kernel
theorem dX4_set_44 : decode cX4_set 44 = .ok (.iload_n 2, 1) := by decide +kernel
theorem dX4_set_45 : decode cX4_set 45 = .ok (.iastore, 1) := by decide +kernel
theorem dX4_set_46 : decode cX4_set 46 = .ok (.return_, 1) := by decide +kernel
set_option maxHeartbeats 4000000 in
set_option maxRecDepth 100000 in
theorem c_X4_set (d u : Nat) (hu : u < 4) (z k : Nat) (hz : z ≤ 40) (hk : k < z) (i v : Int32) (hi : i = nI k) (s : gS) (ez : s (30 + 2 * u) 2 = nI z) : gMt SC yX4_set cX4_set 3 none (d + 2) (fun ad => [.ref (ad (30 + 2 * u)), .int i, .int v]) s (gQv SC (fun s' => s' = g_up s (30 + 2 * u + 1) k (x_nar (s (30 + 2 * u) 1) v))) := by
  refine gMt_of SC_ok (by decide +kernel) (fun ad => [some (.ref (ad (30 + 2 * u))), some (.int i), some (.int v)]) (fun _ => rfl) (fun _ => rfl) (fun _ => Nat.le_of_ble_eq_true rfl) (fun E C0 => ?_)
  have C : gCx SC E RX4 cX4_set 3 none (d + 2) := C0
  refine G_iload_n (i := 1) C 1 dX4_set_0 rfl rfl rfl ?_
  refine G_iconst (v := 0) C 2 dX4_set_1 rfl rfl ?_
  refine G_aload_n (i := 0) C 3 dX4_set_2 rfl rfl rfl ?_
  refine X4_19g C hu 6 dX4_set_3 rfl (fun x3 ex3 => ?_)
  have Sx3 : x3 = nI z := ex3.trans ez
  refine G_iconst (v := 1) C 7 dX4_set_6 rfl rfl ?_
  refine G_isub C 8 dX4_set_7 rfl (fun x7 ex7 => ?_)
  refine G_calli 11 (G_runN C Kc_X10_within KN_X4_28 (by omega) (c_X10_within 0 i 0 x7 s) rfl rfl (Nat.le_of_ble_eq_true rfl) rfl dX4_set_8) rfl (fun x8 s8 h8 => ?_)
  obtain ⟨es8, h8⟩ := h8
  have es8 := es8.symm
  subst es8
  refine G_if_eq C 46 14 dX4_set_11 rfl rfl (fun c11 => ?_) (fun c11 => ?_)
  ·
    exfalso
    have z0 := h8.symm.trans c11
    rw [ex7, Sx3, y_oneG (by omega), hi, x_oneL hk (by omega)] at z0
    exact absurd z0 (by decide)
  ·
    have k11 := g_neT h8 c11
    refine G_aload_n (i := 0) C 15 dX4_set_14 rfl rfl rfl ?_
    refine X4_9g C hu 18 dX4_set_15 rfl ?_
    refine G_iload_n (i := 1) C 19 dX4_set_18 rfl rfl rfl ?_
    refine G_aload_n (i := 0) C 20 dX4_set_19 rfl rfl rfl ?_
    refine X4_15g C hu 23 dX4_set_20 rfl (fun x20 ex20 => ?_)
    refine G_if_ne C 31 26 dX4_set_23 rfl rfl (fun c23 => ?_) (fun c23 => ?_)
    ·
      refine G_aload_n (i := 0) C 32 dX4_set_31 rfl rfl rfl ?_
      refine X4_15g C hu 35 dX4_set_32 rfl (fun x32 ex32 => ?_)
      refine G_iconst (v := 1) C 36 dX4_set_35 rfl rfl ?_
      refine G_icmp_ne C 44 39 dX4_set_36 rfl rfl (fun c36 => ?_) (fun c36 => ?_)
      ·
        refine G_iload_n (i := 2) C 45 dX4_set_44 rfl rfl rfl ?_
        refine G_iast (n := 40) C 46 (lS hu (by decide)) (fun σ => eSn _ _ σ hu) (k) hi (by omega) (by decide) (Nat.le_of_eq (nS1 hu).symm) dX4_set_45 rfl (fun s45 es45 => ?_)
        exact G_vret C dX4_set_46 (by rw [es45]; unfold x_nar; rw [if_neg (fun w => c23 (ex20.trans w)), if_neg (fun w => c36 (ex32.trans w))])
      ·
        refine G_iload_n (i := 2) C 40 dX4_set_39 rfl rfl rfl ?_
        refine G_i2s C 41 dX4_set_40 rfl (fun x40 ex40 => ?_)
        refine G_goto C 45 dX4_set_41 rfl ?_
        refine G_iast (n := 40) C 46 (lS hu (by decide)) (fun σ => eSn _ _ σ hu) (k) hi (by omega) (by decide) (Nat.le_of_eq (nS1 hu).symm) dX4_set_45 rfl (fun s45 es45 => ?_)
        exact G_vret C dX4_set_46 (by rw [es45]; unfold x_nar; rw [if_neg (fun w => c23 (ex20.trans w)), if_pos (ex32.symm.trans c36), ← ex40])
    ·
      refine G_iload_n (i := 2) C 27 dX4_set_26 rfl rfl rfl ?_
      refine G_i2b C 28 dX4_set_27 rfl (fun x27 ex27 => ?_)
      refine G_goto C 45 dX4_set_28 rfl ?_
      refine G_iast (n := 40) C 46 (lS hu (by decide)) (fun σ => eSn _ _ σ hu) (k) hi (by omega) (by decide) (Nat.le_of_eq (nS1 hu).symm) dX4_set_45 rfl (fun s45 es45 => ?_)
      exact G_vret C dX4_set_46 (by rw [es45]; unfold x_nar; rw [if_pos (ex20.symm.trans c23), ← ex27])
theorem dX10_lowest_0 : decode cX10_lowest 0 = .ok (.iload_n 1, 1) := by decide +kernel
theorem dX10_lowest_1 : decode cX10_lowest 1 = .ok (.istore_n 3, 1) := by decide +kernel
theorem dX10_lowest_2 : decode cX10_lowest 2 = .ok (.iload_n 0, 1) := by decide +kernel
theorem dX10_lowest_3 : decode cX10_lowest 3 = .ok (.istore 4, 2) := by decide +kernel
theorem dX10_lowest_5 : decode cX10_lowest 5 = .ok (.iconst 0, 1) := by decide +kernel
theorem dX10_lowest_6 : decode cX10_lowest 6 = .ok (.istore 5, 2) := by decide +kernel
theorem dX10_lowest_8 : decode cX10_lowest 8 = .ok (.iload 5, 2) := by decide +kernel
theorem dX10_lowest_10 : decode cX10_lowest 10 = .ok (.bipush 100, 2) := by decide +kernel
theorem dX10_lowest_12 : decode cX10_lowest 12 = .ok (.if_icmp .ge 27, 3) := by decide +kernel
theorem dX10_lowest_15 : decode cX10_lowest 15 = .ok (.iload 4, 2) := by decide +kernel
theorem dX10_lowest_17 : decode cX10_lowest 17 = .ok (.ifCond .eq 22, 3) := by decide +kernel
theorem dX10_lowest_20 : decode cX10_lowest 20 = .ok (.iload_n 3, 1) := by decide +kernel
theorem dX10_lowest_21 : decode cX10_lowest 21 = .ok (.iload 4, 2) := by decide +kernel
theorem dX10_lowest_23 : decode cX10_lowest 23 = .ok (.irem, 1) := by decide +kernel
theorem dX10_lowest_24 : decode cX10_lowest 24 = .ok (.istore 6, 2) := by decide +kernel
theorem dX10_lowest_26 : decode cX10_lowest 26 = .ok (.iload 4, 2) := by decide +kernel
theorem dX10_lowest_28 : decode cX10_lowest 28 = .ok (.istore_n 3, 1) := by decide +kernel
theorem dX10_lowest_29 : decode cX10_lowest 29 = .ok (.iload 6, 2) := by decide +kernel
theorem dX10_lowest_31 : decode cX10_lowest 31 = .ok (.istore 4, 2) := by decide +kernel
theorem dX10_lowest_33 : decode cX10_lowest 33 = .ok (.iinc 5 1, 3) := by decide +kernel
theorem dX10_lowest_36 : decode cX10_lowest 36 = .ok (.goto (-28), 3) := by decide +kernel
theorem dX10_lowest_39 : decode cX10_lowest 39 = .ok (.iload_n 3, 1) := by decide +kernel
theorem dX10_lowest_40 : decode cX10_lowest 40 = .ok (.ifCond .ne 7, 3) := by decide +kernel
theorem dX10_lowest_43 : decode cX10_lowest 43 = .ok (.ldc2_w 206, 3) := by decide +kernel
theorem dX10_lowest_46 : decode cX10_lowest 46 = .ok (.lreturn, 1) := by decide +kernel
theorem dX10_lowest_47 : decode cX10_lowest 47 = .ok (.iload_n 2, 1) := by decide +kernel
theorem dX10_lowest_48 : decode cX10_lowest 48 = .ok (.ifCond .ne 10, 3) := by decide +kernel
theorem dX10_lowest_51 : decode cX10_lowest 51 = .ok (.iload_n 0, 1) := by decide +kernel
theorem dX10_lowest_52 : decode cX10_lowest 52 = .ok (.iload_n 3, 1) := by decide +kernel
theorem dX10_lowest_53 : decode cX10_lowest 53 = .ok (.idiv, 1) := by decide +kernel
theorem dX10_lowest_54 : decode cX10_lowest 54 = .ok (.i2l, 1) := by decide +kernel
theorem dX10_lowest_55 : decode cX10_lowest 55 = .ok (.goto 7, 3) := by decide +kernel
theorem dX10_lowest_58 : decode cX10_lowest 58 = .ok (.iload_n 1, 1) := by decide +kernel
theorem dX10_lowest_59 : decode cX10_lowest 59 = .ok (.iload_n 3, 1) := by decide +kernel
theorem dX10_lowest_60 : decode cX10_lowest 60 = .ok (.idiv, 1) := by decide +kernel
theorem dX10_lowest_61 : decode cX10_lowest 61 = .ok (.i2l, 1) := by decide +kernel
theorem dX10_lowest_62 : decode cX10_lowest 62 = .ok (.lreturn, 1) := by decide +kernel
set_option maxHeartbeats 4000000 in
set_option maxRecDepth 100000 in
theorem c_X10_lowest (d na nb : Nat) (ha : na ≤ 2000) (hb1 : 1 ≤ nb) (hb : nb ≤ 40) (a b q : Int32) (ea : a = nI na) (eb : b = nI nb) (s : gS) : gMt SC yX10_lowest cX10_lowest 7 (some .long) (d + 1) (fun ad => [.int a, .int b, .int q]) s (gQl SC (fun r s' => s' = s ∧ r = x_lowest na nb q)) := by
  refine gMt_of SC_ok (by decide +kernel) (fun ad => [some (.int a), some (.int b), some (.int q), none, none, none, none]) (fun _ => rfl) (fun _ => rfl) (fun _ => Nat.le_of_ble_eq_true rfl) (fun E C0 => ?_)
  have C : gCx SC E RX10 cX10_lowest 7 (some .long) (d + 1) := C0
  refine G_iload_n (i := 1) C 1 dX10_lowest_0 rfl rfl rfl ?_
  refine G_istore_n (i := 3) (L' := [some (.int a), some (.int b), some (.int q), some (.int b), none, none, none]) C 2 dX10_lowest_1 rfl rfl (Nat.le_of_ble_eq_true rfl) rfl rfl ?_
  refine G_iload_n (i := 0) C 3 dX10_lowest_2 rfl rfl rfl ?_
  refine G_istore (L' := [some (.int a), some (.int b), some (.int q), some (.int b), some (.int a), none, none]) C 5 dX10_lowest_3 rfl (Nat.le_of_ble_eq_true rfl) rfl rfl ?_
  refine G_iconst (v := 0) C 6 dX10_lowest_5 rfl rfl ?_
  refine G_istore (L' := [some (.int a), some (.int b), some (.int q), some (.int b), some (.int a), some (.int 0), none]) C 8 dX10_lowest_6 rfl (Nat.le_of_ble_eq_true rfl) rfl rfl ?_
  have L8 : ∀ (f8 : Nat) (k c r : Nat) (y3 y4 y5 : Int32) (Ey3 : y3 = nI c) (Ey4 : y4 = nI r) (Ey5 : y5 = nI k) (hk : k ≤ 100) (hc : c ≤ 2000) (hr2 : r ≤ 2000) (hg : Nat.gcd c r = Nat.gcd na nb) (hr : (k = 0 ∧ c ≤ 40) ∨ r + k ≤ 42), 100 < k + f8 → GW SC E (gFin SC E (gQl SC (fun r s' => s' = s ∧ r = x_lowest na nb q))) 8 [some (.int a), some (.int b), some (.int q), some (.int y3), some (.int y4), some (.int y5), none] [] s := by
    intro f8
    induction f8 with
    | zero =>
      intro k c r y3 y4 y5 Ey3 Ey4 Ey5 hk hc hr2 hg hr hf8
      exact absurd hf8 (by omega)
    | succ f8 ih8 =>
      intro k c r y3 y4 y5 Ey3 Ey4 Ey5 hk hc hr2 hg hr hf8
      refine G_iload C 10 dX10_lowest_8 rfl rfl ?_
      refine G_bipush (v := 100) C 12 dX10_lowest_10 rfl rfl ?_
      refine G_icmp_ge C 39 15 dX10_lowest_12 rfl rfl (fun c12 => ?_) (fun c12 => ?_)
      ·
        have n12 : ¬ k < 100 := fun h => c12 ((g_ltN (a := k) (b := 100) (hx := Ey5) (hy := rfl) (by omega) (by omega)).mpr h)
        exfalso; omega
      ·
        have n12 : k < 100 := (g_ltN (a := k) (b := 100) (hx := Ey5) (hy := rfl) (by omega) (by omega)).mp c12
        refine G_iload C 17 dX10_lowest_15 rfl rfl ?_
        refine G_if_eq C 39 20 dX10_lowest_17 rfl rfl (fun c17 => ?_) (fun c17 => ?_)
        ·
          have n17 : r = 0 := (g_eqN (a := r) (b := 0) (hx := Ey4) (hy := rfl) (by omega) (by omega)).mp c17
          have hgc : c = Nat.gcd na nb := by rw [← hg, n17, Nat.gcd_zero_right]
          have hc0 : 0 < c := by rw [hgc]; exact Nat.gcd_pos_of_pos_right _ hb1
          refine G_iload_n (i := 3) C 40 dX10_lowest_39 rfl rfl rfl ?_
          refine G_if_ne C 47 43 dX10_lowest_40 rfl rfl (fun c40 => ?_) (fun c40 => ?_)
          ·
            have n40 : ¬ c = 0 := fun h => c40 ((g_eqN (a := c) (b := 0) (hx := Ey3) (hy := rfl) (by omega) (by omega)).mpr h)
            refine G_iload_n (i := 2) C 48 dX10_lowest_47 rfl rfl rfl ?_
            refine G_if_ne C 58 51 dX10_lowest_48 rfl rfl (fun c48 => ?_) (fun c48 => ?_)
            ·
              refine G_iload_n (i := 1) C 59 dX10_lowest_58 rfl rfl rfl ?_
              refine G_iload_n (i := 3) C 60 dX10_lowest_59 rfl rfl rfl ?_
              refine G_idiv C 61 dX10_lowest_60 rfl c40 (fun x60 ex60 => ?_)
              have Nx60 : x60 = nI (nb / c) := by rw [ex60, eb, Ey3, pk_div (by omega) (by omega) (by omega)]
              refine G_i2l C 62 dX10_lowest_61 rfl (fun x61 ex61 => ?_)
              exact G_lret C dX10_lowest_62 (⟨rfl, by unfold x_lowest; rw [if_neg c48, ex61, Nx60, hgc]⟩)
            ·
              refine G_iload_n (i := 0) C 52 dX10_lowest_51 rfl rfl rfl ?_
              refine G_iload_n (i := 3) C 53 dX10_lowest_52 rfl rfl rfl ?_
              refine G_idiv C 54 dX10_lowest_53 rfl c40 (fun x53 ex53 => ?_)
              have Nx53 : x53 = nI (na / c) := by rw [ex53, ea, Ey3, pk_div (by omega) (by omega) (by omega)]
              refine G_i2l C 55 dX10_lowest_54 rfl (fun x54 ex54 => ?_)
              refine G_goto C 62 dX10_lowest_55 rfl ?_
              exact G_lret C dX10_lowest_62 (⟨rfl, by unfold x_lowest; rw [if_pos c48, ex54, Nx53, hgc]⟩)
          ·
            have n40 : c = 0 := (g_eqN (a := c) (b := 0) (hx := Ey3) (hy := rfl) (by omega) (by omega)).mp c40
            exfalso; omega
        ·
          have n17 : ¬ r = 0 := fun h => c17 ((g_eqN (a := r) (b := 0) (hx := Ey4) (hy := rfl) (by omega) (by omega)).mpr h)
          refine G_iload_n (i := 3) C 21 dX10_lowest_20 rfl rfl rfl ?_
          refine G_iload C 23 dX10_lowest_21 rfl rfl ?_
          refine G_irem C 24 dX10_lowest_23 rfl c17 (fun x23 ex23 => ?_)
          have Nx23 : x23 = nI (c % r) := by rw [ex23, Ey3, Ey4, pk_rem (by omega) (by omega) (by omega)]
          refine G_istore (L' := [some (.int a), some (.int b), some (.int q), some (.int y3), some (.int y4), some (.int y5), some (.int x23)]) C 26 dX10_lowest_24 rfl (Nat.le_of_ble_eq_true rfl) rfl rfl ?_
          refine G_iload C 28 dX10_lowest_26 rfl rfl ?_
          refine G_istore_n (i := 3) (L' := [some (.int a), some (.int b), some (.int q), some (.int y4), some (.int y4), some (.int y5), some (.int x23)]) C 29 dX10_lowest_28 rfl rfl (Nat.le_of_ble_eq_true rfl) rfl rfl ?_
          refine G_iload C 31 dX10_lowest_29 rfl rfl ?_
          refine G_istore (L' := [some (.int a), some (.int b), some (.int q), some (.int y4), some (.int x23), some (.int y5), some (.int x23)]) C 33 dX10_lowest_31 rfl (Nat.le_of_ble_eq_true rfl) rfl rfl ?_
          refine G_iinc (w := 1) C 36 dX10_lowest_33 rfl rfl rfl rfl (fun x33 ex33 => ?_)
          have Nx33 : x33 = nI (k + 1) := g_addN ex33 Ey5 rfl
          show GW SC E _ 36 [some (.int a), some (.int b), some (.int q), some (.int y4), some (.int x23), some (.int x33), some (.int x23)] [] s
          refine G_goto C 8 dX10_lowest_36 rfl ?_
          refine G_drop (L' := [some (.int a), some (.int b), some (.int q), some (.int y4), some (.int x23), some (.int x33), none]) ⟨rfl, rfl, rfl, rfl, rfl, rfl, trivial⟩ ?_
          exact ih8 (k + 1) r (c % r) y4 x23 x33  (g_cn (a := r) Ey4 (by first | rfl | omega | (simp only [List.length_cons, List.length_drop]; done) | (simp only [List.length_cons, List.length_drop]; omega))) (g_cn (a := (c % r)) Nx23 (by first | rfl | omega | (simp only [List.length_cons, List.length_drop]; done) | (simp only [List.length_cons, List.length_drop]; omega))) (g_cn (a := (k + 1)) Nx33 (by first | rfl | omega | (simp only [List.length_cons, List.length_drop]; done) | (simp only [List.length_cons, List.length_drop]; omega))) (by omega) (by omega) (by have := Nat.mod_lt c (y := r) (by omega); omega) (by rw [← hg, Nat.gcd_comm c r, Nat.gcd_rec r c, Nat.gcd_comm]) (by
            have q1 := Nat.mod_lt c (y := r) (by omega)
            have q2 := Nat.mod_le c r
            right
            omega) (by omega)
  exact L8 (100 + 1) 0 nb na b a 0  (g_cn (a := nb) eb (by first | rfl | omega)) (g_cn (a := na) ea (by first | rfl | omega)) (g_cn (a := 0) rfl (by first | rfl | omega)) (by omega) (by omega) (by omega) (Nat.gcd_comm _ _) (Or.inl ⟨rfl, hb⟩) (by omega)
theorem dX10_mean_0 : decode cX10_mean 0 = .ok (.iload_n 1, 1) := by decide +kernel
theorem dX10_mean_1 : decode cX10_mean 1 = .ok (.iconst 0, 1) := by decide +kernel
theorem dX10_mean_2 : decode cX10_mean 2 = .ok (.iconst 1, 1) := by decide +kernel
theorem dX10_mean_3 : decode cX10_mean 3 = .ok (.invokestatic 112, 3) := by decide +kernel
theorem dX10_mean_6 : decode cX10_mean 6 = .ok (.ifCond .eq 13, 3) := by decide +kernel
theorem dX10_mean_9 : decode cX10_mean 9 = .ok (.aload_n 0, 1) := by decide +kernel
theorem dX10_mean_10 : decode cX10_mean 10 = .ok (.getfield 57, 3) := by decide +kernel
theorem dX10_mean_13 : decode cX10_mean 13 = .ok (.getfield 100, 3) := by decide +kernel
theorem dX10_mean_16 : decode cX10_mean 16 = .ok (.ifCond .ne 7, 3) := by decide +kernel
theorem dX10_mean_19 : decode cX10_mean 19 = .ok (.ldc2_w 206, 3) := by decide +kernel
theorem dX10_mean_22 : decode cX10_mean 22 = .ok (.lreturn, 1) := by decide +kernel
theorem dX10_mean_23 : decode cX10_mean 23 = .ok (.iconst 0, 1) := by decide +kernel
theorem dX10_mean_24 : decode cX10_mean 24 = .ok (.istore_n 2, 1) := by decide +kernel
theorem dX10_mean_25 : decode cX10_mean 25 = .ok (.iconst 0, 1) := by decide +kernel
theorem dX10_mean_26 : decode cX10_mean 26 = .ok (.istore_n 3, 1) := by decide +kernel
theorem dX10_mean_27 : decode cX10_mean 27 = .ok (.iload_n 3, 1) := by decide +kernel
theorem dX10_mean_28 : decode cX10_mean 28 = .ok (.bipush 10, 2) := by decide +kernel
theorem dX10_mean_30 : decode cX10_mean 30 = .ok (.if_icmp .ge 35, 3) := by decide +kernel
theorem dX10_mean_33 : decode cX10_mean 33 = .ok (.aload_n 0, 1) := by decide +kernel
theorem dX10_mean_34 : decode cX10_mean 34 = .ok (.getfield 57, 3) := by decide +kernel
theorem dX10_mean_37 : decode cX10_mean 37 = .ok (.getfield 100, 3) := by decide +kernel
theorem dX10_mean_40 : decode cX10_mean 40 = .ok (.iload_n 3, 1) := by decide +kernel
theorem dX10_mean_41 : decode cX10_mean 41 = .ok (.invokestatic 199, 3) := by decide +kernel
theorem dX10_mean_44 : decode cX10_mean 44 = .ok (.ifCond .eq 15, 3) := by decide +kernel
theorem dX10_mean_47 : decode cX10_mean 47 = .ok (.iload_n 2, 1) := by decide +kernel
theorem dX10_mean_48 : decode cX10_mean 48 = .ok (.aload_n 0, 1) := by decide +kernel
theorem dX10_mean_49 : decode cX10_mean 49 = .ok (.getfield 57, 3) := by decide +kernel
theorem dX10_mean_52 : decode cX10_mean 52 = .ok (.getfield 125, 3) := by decide +kernel
theorem dX10_mean_55 : decode cX10_mean 55 = .ok (.iload_n 3, 1) := by decide +kernel
theorem dX10_mean_56 : decode cX10_mean 56 = .ok (.iaload, 1) := by decide +kernel
theorem dX10_mean_57 : decode cX10_mean 57 = .ok (.iadd, 1) := by decide +kernel
theorem dX10_mean_58 : decode cX10_mean 58 = .ok (.istore_n 2, 1) := by decide +kernel
theorem dX10_mean_59 : decode cX10_mean 59 = .ok (.iinc 3 1, 3) := by decide +kernel
theorem dX10_mean_62 : decode cX10_mean 62 = .ok (.goto (-35), 3) := by decide +kernel
theorem dX10_mean_65 : decode cX10_mean 65 = .ok (.iload_n 2, 1) := by decide +kernel
theorem dX10_mean_66 : decode cX10_mean 66 = .ok (.aload_n 0, 1) := by decide +kernel
theorem dX10_mean_67 : decode cX10_mean 67 = .ok (.getfield 57, 3) := by decide +kernel
theorem dX10_mean_70 : decode cX10_mean 70 = .ok (.getfield 100, 3) := by decide +kernel
theorem dX10_mean_73 : decode cX10_mean 73 = .ok (.invokestatic 103, 3) := by decide +kernel
theorem dX10_mean_76 : decode cX10_mean 76 = .ok (.iload_n 1, 1) := by decide +kernel
theorem dX10_mean_77 : decode cX10_mean 77 = .ok (.invokestatic 208, 3) := by decide +kernel
theorem dX10_mean_80 : decode cX10_mean 80 = .ok (.lreturn, 1) := by decide +kernel
set_option maxHeartbeats 4000000 in
set_option maxRecDepth 100000 in
theorem c_X10_mean (d : Nat) (TX : gTX) (P B s : gS) (hR0 : RC TX P B s) (q : Int32) : gMt SC yX10_mean cX10_mean 4 (some .long) (d + 3) (fun ad => [.ref (ad 0), .int q]) s (gQl SC (fun r s' => RC TX P B s' ∧ r = s_mean P q)) := by
  obtain ⟨nT, n, l, hR⟩ := hR0
  have hI := hR.1
  have hn6 : n ≤ 6 := hI.2.2.1.2.1
  have hl6 : l < 6 := cI_l6 hI
  have hxn : x_n P = n := x_nOf hI.2.2.1.1 hn6
  have hbI := hR.2.2
  refine gMt_of SC_ok (by decide +kernel) (fun ad => [some (.ref (ad 0)), some (.int q), none, none]) (fun _ => rfl) (fun _ => rfl) (fun _ => Nat.le_of_ble_eq_true rfl) (fun E C0 => ?_)
  have C : gCx SC E RX10 cX10_mean 4 (some .long) (d + 3) := C0
  have fm : cI TX nT n l 45 P s := hI
  have fq : Fr mQ s s := Fr.rf
  refine G_iload_n (i := 1) C 1 dX10_mean_0 rfl rfl rfl ?_
  refine G_iconst (v := 0) C 2 dX10_mean_1 rfl rfl ?_
  refine G_iconst (v := 1) C 3 dX10_mean_2 rfl rfl ?_
  refine G_calli 6 (G_runS C Kc_X10_within KS_X10_112 (by omega) (c_X10_within 0 q 0 1 s) rfl rfl (Nat.le_of_ble_eq_true rfl) rfl dX10_mean_3) rfl (fun x3 s3 h3 => ?_)
  obtain ⟨es3, h3⟩ := h3
  have es3 := es3.symm
  subst es3
  refine G_if_eq C 19 9 dX10_mean_6 rfl rfl (fun c6 => ?_) (fun c6 => ?_)
  ·
    have k6 := h3.symm.trans c6
    refine G_ldc2 (v := (-4611686018427387904)) C 22 w_688 dX10_mean_19 rfl ?_
    exact G_lret C dX10_mean_22 (⟨RC_q hR fq, by unfold s_mean; rw [if_pos k6]⟩)
  ·
    have k6 := g_neT h3 c6
    refine G_aload_n (i := 0) C 10 dX10_mean_9 rfl rfl rfl ?_
    refine X10_57g C 13 dX10_mean_10 rfl ?_
    refine X10_100g C (Or.inl rfl) 16 dX10_mean_13 rfl (fun x13 ex13 => ?_)
    have Sx13 : x13 = P 0 2 := ex13.trans (cI_v fm 0 2)
    obtain ⟨mx13, hmx13, emx13⟩ := fm.2.2.1.2.2.2.2.2.2.2.1
    refine G_if_ne C 23 19 dX10_mean_16 rfl rfl (fun c16 => ?_) (fun c16 => ?_)
    ·
      have n16 : ¬ mx13 = 0 := fun h => c16 ((g_eqN (a := mx13) (b := 0) (hx := (Sx13.trans emx13)) (hy := rfl) (by omega) (by omega)).mpr h)
      refine G_iconst (v := 0) C 24 dX10_mean_23 rfl rfl ?_
      refine G_istore_n (i := 2) (L' := [some (.ref (e_ad E 0)), some (.int q), some (.int 0), none]) C 25 dX10_mean_24 rfl rfl (Nat.le_of_ble_eq_true rfl) rfl rfl ?_
      refine G_iconst (v := 0) C 26 dX10_mean_25 rfl rfl ?_
      refine G_istore_n (i := 3) (L' := [some (.ref (e_ad E 0)), some (.int q), some (.int 0), some (.int 0)]) C 27 dX10_mean_26 rfl rfl (Nat.le_of_ble_eq_true rfl) rfl rfl ?_
      have L27 : ∀ (f27 : Nat) (k : Nat) (to y : Int32) (Ey : y = nI k) (hk : k ≤ 10) (hto : to = x_sum P k), 10 < k + f27 → GW SC E (gFin SC E (gQl SC (fun r s' => RC TX P B s' ∧ r = s_mean P q))) 27 [some (.ref (e_ad E 0)), some (.int q), some (.int to), some (.int y)] [] s := by
        intro f27
        induction f27 with
        | zero =>
          intro k to y Ey hk hto hf27
          exact absurd hf27 (by omega)
        | succ f27 ih27 =>
          intro k to y Ey hk hto hf27
          refine G_iload_n (i := 3) C 28 dX10_mean_27 rfl rfl rfl ?_
          refine G_bipush (v := 10) C 30 dX10_mean_28 rfl rfl ?_
          refine G_icmp_ge C 65 33 dX10_mean_30 rfl rfl (fun c30 => ?_) (fun c30 => ?_)
          ·
            have n30 : ¬ k < 10 := fun h => c30 ((g_ltN (a := k) (b := 10) (hx := Ey) (hy := rfl) (by omega) (by omega)).mpr h)
            refine G_iload_n (i := 2) C 66 dX10_mean_65 rfl rfl rfl ?_
            refine G_aload_n (i := 0) C 67 dX10_mean_66 rfl rfl rfl ?_
            refine X10_57g C 70 dX10_mean_67 rfl ?_
            refine X10_100g C (Or.inl rfl) 73 dX10_mean_70 rfl (fun x70 ex70 => ?_)
            have Sx70 : x70 = P 0 2 := ex70.trans (cI_v fm 0 2)
            obtain ⟨mx70, hmx70, emx70⟩ := fm.2.2.1.2.2.2.2.2.2.2.1
            refine G_calli 76 (G_runS C Kc_J6_bitCount_0f7a4 KS_X10_103 (by omega) (c_J6_bitCount_0f7a4 0 mx70 (by omega) x70 (Sx70.trans emx70) s) rfl rfl (Nat.le_of_ble_eq_true rfl) rfl dX10_mean_73) rfl (fun x73 s73 h73 => ?_)
            obtain ⟨es73, h73⟩ := h73
            have es73 := es73.symm
            subst es73
            refine G_iload_n (i := 1) C 77 dX10_mean_76 rfl rfl rfl ?_
            obtain ⟨na, hna, ena⟩ := x_sum_r hbI.2.2.2.2.2.1 10 (Nat.le_refl _)
            have e10 : k = 10 := by omega
            have ea : to = nI na := by rw [hto, e10, ena]
            obtain ⟨nb, hnb, eb⟩ : ∃ nb, nb ≤ 10 ∧ x73 = nI nb := by obtain ⟨j, hj, ej⟩ := x_cnt_r x70; exact ⟨j, hj, h73.trans ej⟩
            have hb1 : 1 ≤ nb := by
              rcases Nat.eq_zero_or_pos nb with w | w
              · exfalso
                have em : x70 = nI mx70 := Sx70.trans emx70
                refine x_cnt_pos mx70 hmx70 ?_ ?_
                · intro w2
                  refine c16 ?_
                  rw [Sx13, ← Sx70, em, w2]
                  rfl
                · rw [← em, ← h73, eb, w]
                  rfl
              · exact w
            refine G_calll 80 (G_runS C Kc_X10_lowest KS_X10_208 (by omega) (c_X10_lowest 0 na nb (by omega) hb1 (by omega) to x73 q ea eb s) rfl rfl (Nat.le_of_ble_eq_true rfl) rfl dX10_mean_77) rfl (fun x77 s77 h77 => ?_)
            obtain ⟨es77, h77⟩ := h77
            have es77 := es77.symm
            subst es77
            exact G_lret C dX10_mean_80 (⟨RC_q hR fq, by unfold s_mean; rw [if_neg k6, if_neg (fun w => c16 (Sx13.trans w)), ena, nI_clamp (by omega), ← Sx70, ← h73, eb, nI_clamp (by omega)]; exact h77⟩)
          ·
            have n30 : k < 10 := (g_ltN (a := k) (b := 10) (hx := Ey) (hy := rfl) (by omega) (by omega)).mp c30
            refine G_aload_n (i := 0) C 34 dX10_mean_33 rfl rfl rfl ?_
            refine X10_57g C 37 dX10_mean_34 rfl ?_
            refine X10_100g C (Or.inl rfl) 40 dX10_mean_37 rfl (fun x37 ex37 => ?_)
            have Sx37 : x37 = P 0 2 := ex37.trans (cI_v fm 0 2)
            obtain ⟨mx37, hmx37, emx37⟩ := fm.2.2.1.2.2.2.2.2.2.2.1
            refine G_iload_n (i := 3) C 41 dX10_mean_40 rfl rfl rfl ?_
            refine G_calli 44 (G_runS C Kc_X10_isIn KS_X10_199 (by omega) (c_X10_isIn 0 x37 y s) rfl rfl (Nat.le_of_ble_eq_true rfl) rfl dX10_mean_41) rfl (fun x41 s41 h41 => ?_)
            obtain ⟨es41, h41⟩ := h41
            have es41 := es41.symm
            subst es41
            have Bx41 : x41 = x_bit x37 y := h41.trans (x_isInE _ _)
            refine G_if_eq C 59 47 dX10_mean_44 rfl rfl (fun c44 => ?_) (fun c44 => ?_)
            ·
              have k44 := h41.symm.trans c44
              refine G_iinc (w := 1) C 62 dX10_mean_59 rfl rfl rfl rfl (fun x59 ex59 => ?_)
              have Nx59 : x59 = nI (k + 1) := g_addN ex59 Ey rfl
              show GW SC E _ 62 [some (.ref (e_ad E 0)), some (.int q), some (.int to), some (.int x59)] [] s
              refine G_goto C 27 dX10_mean_62 rfl ?_
              exact ih27 (k + 1) to x59  (g_cn (a := (k + 1)) Nx59 (by first | rfl | omega | (simp only [List.length_cons, List.length_drop]; done) | (simp only [List.length_cons, List.length_drop]; omega))) (by omega) (by rw [x_sum, if_pos (by rw [← Sx37, ← Ey, ← Bx41]; exact c44), hto]) (by omega)
            ·
              have k44 := g_neT h41 c44
              refine G_iload_n (i := 2) C 48 dX10_mean_47 rfl rfl rfl ?_
              refine G_aload_n (i := 0) C 49 dX10_mean_48 rfl rfl rfl ?_
              refine X10_57g C 52 dX10_mean_49 rfl ?_
              refine X10_125g C (Or.inl rfl) 55 dX10_mean_52 rfl ?_
              refine G_iload_n (i := 3) C 56 dX10_mean_55 rfl rfl rfl ?_
              refine G_iald (n := 10) C 57 (lW (Or.inl rfl) (by decide)) (eWe _ _ _ (Or.inl rfl)) (k) Ey (by omega) (by decide) dX10_mean_56 rfl (fun x56 ex56 => ?_)
              have Sx56 : x56 = P 1 (k) := ex56.trans (congrFun (congrFun fm.2.1 1) _)
              refine G_iadd C 58 dX10_mean_57 rfl (fun x57 ex57 => ?_)
              refine G_istore_n (i := 2) (L' := [some (.ref (e_ad E 0)), some (.int q), some (.int x57), some (.int y)]) C 59 dX10_mean_58 rfl rfl (Nat.le_of_ble_eq_true rfl) rfl rfl ?_
              refine G_iinc (w := 1) C 62 dX10_mean_59 rfl rfl rfl rfl (fun x59 ex59 => ?_)
              have Nx59 : x59 = nI (k + 1) := g_addN ex59 Ey rfl
              show GW SC E _ 62 [some (.ref (e_ad E 0)), some (.int q), some (.int x57), some (.int x59)] [] s
              refine G_goto C 27 dX10_mean_62 rfl ?_
              exact ih27 (k + 1) x57 x59  (g_cn (a := (k + 1)) Nx59 (by first | rfl | omega | (simp only [List.length_cons, List.length_drop]; done) | (simp only [List.length_cons, List.length_drop]; omega))) (by omega) (by rw [x_sum, if_neg (by rw [← Sx37, ← Ey, ← Bx41]; exact c44), ex57, Sx56, hto]) (by omega)
      exact L27 (10 + 1) 0 0 0  (g_cn (a := 0) rfl (by first | rfl | omega)) (by omega) (rfl) (by omega)
    ·
      have n16 : mx13 = 0 := (g_eqN (a := mx13) (b := 0) (hx := (Sx13.trans emx13)) (hy := rfl) (by omega) (by omega)).mp c16
      refine G_ldc2 (v := (-4611686018427387904)) C 22 w_688 dX10_mean_19 rfl ?_
      exact G_lret C dX10_mean_22 (⟨RC_q hR fq, by unfold s_mean; rw [if_neg k6, if_pos (Sx13.symm.trans c16)]⟩)
theorem dX10_refusalToJudge_0 : decode cX10_refusalToJudge 0 = .ok (.iload_n 1, 1) := by decide +kernel
theorem dX10_refusalToJudge_1 : decode cX10_refusalToJudge 1 = .ok (.iconst 0, 1) := by decide +kernel
theorem dX10_refusalToJudge_2 : decode cX10_refusalToJudge 2 = .ok (.iconst 3, 1) := by decide +kernel
theorem dX10_refusalToJudge_3 : decode cX10_refusalToJudge 3 = .ok (.invokestatic 112, 3) := by decide +kernel
theorem dX10_refusalToJudge_6 : decode cX10_refusalToJudge 6 = .ok (.ifCond .ne 6, 3) := by decide +kernel
theorem dX10_refusalToJudge_9 : decode cX10_refusalToJudge 9 = .ok (.bipush (-2), 2) := by decide +kernel
theorem dX10_refusalToJudge_11 : decode cX10_refusalToJudge 11 = .ok (.ireturn, 1) := by decide +kernel
theorem dX10_refusalToJudge_12 : decode cX10_refusalToJudge 12 = .ok (.aload_n 0, 1) := by decide +kernel
theorem dX10_refusalToJudge_13 : decode cX10_refusalToJudge 13 = .ok (.getfield 17, 3) := by decide +kernel
theorem dX10_refusalToJudge_16 : decode cX10_refusalToJudge 16 = .ok (.iload_n 1, 1) := by decide +kernel
theorem dX10_refusalToJudge_17 : decode cX10_refusalToJudge 17 = .ok (.aaload, 1) := by decide +kernel
theorem dX10_refusalToJudge_18 : decode cX10_refusalToJudge 18 = .ok (.getfield 239, 3) := by decide +kernel
theorem dX10_refusalToJudge_21 : decode cX10_refusalToJudge 21 = .ok (.iconst (-1), 1) := by decide +kernel
theorem dX10_refusalToJudge_22 : decode cX10_refusalToJudge 22 = .ok (.if_icmp .ne 6, 3) := by decide +kernel
theorem dX10_refusalToJudge_25 : decode cX10_refusalToJudge 25 = .ok (.bipush (-11), 2) := by decide +kernel
theorem dX10_refusalToJudge_27 : decode cX10_refusalToJudge 27 = .ok (.ireturn, 1) := by decide +kernel
theorem dX10_refusalToJudge_28 : decode cX10_refusalToJudge 28 = .ok (.aload_n 0, 1) := by decide +kernel
theorem dX10_refusalToJudge_29 : decode cX10_refusalToJudge 29 = .ok (.getfield 17, 3) := by decide +kernel
theorem dX10_refusalToJudge_32 : decode cX10_refusalToJudge 32 = .ok (.iload_n 1, 1) := by decide +kernel
theorem dX10_refusalToJudge_33 : decode cX10_refusalToJudge 33 = .ok (.aaload, 1) := by decide +kernel
theorem dX10_refusalToJudge_34 : decode cX10_refusalToJudge 34 = .ok (.getfield 242, 3) := by decide +kernel
theorem dX10_refusalToJudge_37 : decode cX10_refusalToJudge 37 = .ok (.bipush 20, 2) := by decide +kernel
theorem dX10_refusalToJudge_39 : decode cX10_refusalToJudge 39 = .ok (.if_icmp .le 8, 3) := by decide +kernel
theorem dX10_refusalToJudge_42 : decode cX10_refusalToJudge 42 = .ok (.bipush (-2), 2) := by decide +kernel
theorem dX10_refusalToJudge_44 : decode cX10_refusalToJudge 44 = .ok (.goto 4, 3) := by decide +kernel
theorem dX10_refusalToJudge_47 : decode cX10_refusalToJudge 47 = .ok (.iconst 0, 1) := by decide +kernel
theorem dX10_refusalToJudge_48 : decode cX10_refusalToJudge 48 = .ok (.ireturn, 1) := by decide +kernel
set_option maxHeartbeats 4000000 in
set_option maxRecDepth 100000 in
theorem c_X10_refusalToJudge (d : Nat) (TX : gTX) (P B s : gS) (hR0 : RC TX P B s) (t : Int32) : gMt SC yX10_refusalToJudge cX10_refusalToJudge 2 (some .int) (d + 2) (fun ad => [.ref (ad 0), .int t]) s (gQi SC (fun r s' => s' = s ∧ r = s_ref B t)) := by
  obtain ⟨nT, n, l, hR⟩ := hR0
  have hI := hR.1
  have hn6 : n ≤ 6 := hI.2.2.1.2.1
  have hl6 : l < 6 := cI_l6 hI
  have hxn : x_n P = n := x_nOf hI.2.2.1.1 hn6
  have hbI := hR.2.2
  refine gMt_of SC_ok (by decide +kernel) (fun ad => [some (.ref (ad 0)), some (.int t)]) (fun _ => rfl) (fun _ => rfl) (fun _ => Nat.le_of_ble_eq_true rfl) (fun E C0 => ?_)
  have C : gCx SC E RX10 cX10_refusalToJudge 2 (some .int) (d + 2) := C0
  have fm : cI TX nT n l 45 P s := hI
  have fq : Fr mQ s s := Fr.rf
  refine G_iload_n (i := 1) C 1 dX10_refusalToJudge_0 rfl rfl rfl ?_
  refine G_iconst (v := 0) C 2 dX10_refusalToJudge_1 rfl rfl ?_
  refine G_iconst (v := 3) C 3 dX10_refusalToJudge_2 rfl rfl ?_
  refine G_calli 6 (G_runS C Kc_X10_within KS_X10_112 (by omega) (c_X10_within 0 t 0 3 s) rfl rfl (Nat.le_of_ble_eq_true rfl) rfl dX10_refusalToJudge_3) rfl (fun x3 s3 h3 => ?_)
  obtain ⟨es3, h3⟩ := h3
  have es3 := es3.symm
  subst es3
  refine G_if_ne C 12 9 dX10_refusalToJudge_6 rfl rfl (fun c6 => ?_) (fun c6 => ?_)
  ·
    have k6 := g_neT h3 c6
    obtain ⟨ut, hut, eut⟩ := x_inR (b := 3) k6 rfl (by decide)
    have cut : t.toNatClampNeg = ut := by rw [eut, nI_clamp (by omega)]
    refine G_aload_n (i := 0) C 13 dX10_refusalToJudge_12 rfl rfl rfl ?_
    refine X10_17g C 16 dX10_refusalToJudge_13 rfl ?_
    refine G_iload_n (i := 1) C 17 dX10_refusalToJudge_16 rfl rfl rfl ?_
    refine G_aald (r := (30 + 2 * ut)) C 18 (by decide) (eC2 _ _ _) (fun _ => rfl) (ut) eut (by omega) (by decide) rfl dX10_refusalToJudge_17 rfl ?_
    refine X10_239g C (by omega) 21 dX10_refusalToJudge_18 rfl (fun x18 ex18 => ?_)
    have Sx18 : x18 = B 2 ut := ex18.trans (cB_so (Rc_q hR fq).2.1 (by omega))
    refine G_iconst (v := (-1)) C 22 dX10_refusalToJudge_21 rfl rfl ?_
    refine G_icmp_ne C 28 25 dX10_refusalToJudge_22 rfl rfl (fun c22 => ?_) (fun c22 => ?_)
    ·
      refine G_aload_n (i := 0) C 29 dX10_refusalToJudge_28 rfl rfl rfl ?_
      refine X10_17g C 32 dX10_refusalToJudge_29 rfl ?_
      refine G_iload_n (i := 1) C 33 dX10_refusalToJudge_32 rfl rfl rfl ?_
      refine G_aald (r := (30 + 2 * ut)) C 34 (by decide) (eC2 _ _ _) (fun _ => rfl) (ut) eut (by omega) (by decide) rfl dX10_refusalToJudge_33 rfl ?_
      refine X10_242g C (by omega) 37 dX10_refusalToJudge_34 rfl (fun x34 ex34 => ?_)
      have Sx34 : x34 = B 3 ut := ex34.trans (cB_sz (Rc_q hR fq).2.1 (by omega))
      refine G_bipush (v := 20) C 39 dX10_refusalToJudge_37 rfl rfl ?_
      refine G_icmp_le C 47 42 dX10_refusalToJudge_39 rfl rfl (fun c39 => ?_) (fun c39 => ?_)
      ·
        refine G_iconst (v := 0) C 48 dX10_refusalToJudge_47 rfl rfl ?_
        exact G_iret C dX10_refusalToJudge_48 (⟨rfl, by unfold s_ref; rw [if_neg k6, cut, if_neg (fun z => c22 (Sx18.trans z)), if_neg (by rw [← Sx34]; exact c39)]⟩)
      ·
        refine G_bipush (v := (-2)) C 44 dX10_refusalToJudge_42 rfl rfl ?_
        refine G_goto C 48 dX10_refusalToJudge_44 rfl ?_
        exact G_iret C dX10_refusalToJudge_48 (⟨rfl, by unfold s_ref; rw [if_neg k6, cut, if_neg (fun z => c22 (Sx18.trans z)), if_pos (by rw [← Sx34]; exact c39)]⟩)
    ·
      refine G_bipush (v := (-11)) C 27 dX10_refusalToJudge_25 rfl rfl ?_
      exact G_iret C dX10_refusalToJudge_27 (⟨rfl, by unfold s_ref; rw [if_neg k6, cut, if_pos (Sx18.symm.trans c22)]⟩)
  ·
    have k6 := h3.symm.trans c6
    refine G_bipush (v := (-2)) C 11 dX10_refusalToJudge_9 rfl rfl ?_
    exact G_iret C dX10_refusalToJudge_11 (⟨rfl, by unfold s_ref; rw [if_pos k6]⟩)
theorem dX10_otherwise_0 : decode cX10_otherwise 0 = .ok (.iconst 0, 1) := by decide +kernel
theorem dX10_otherwise_1 : decode cX10_otherwise 1 = .ok (.istore_n 2, 1) := by decide +kernel
theorem dX10_otherwise_2 : decode cX10_otherwise 2 = .ok (.iload_n 2, 1) := by decide +kernel
theorem dX10_otherwise_3 : decode cX10_otherwise 3 = .ok (.aload_n 1, 1) := by decide +kernel
theorem dX10_otherwise_4 : decode cX10_otherwise 4 = .ok (.getfield 242, 3) := by decide +kernel
theorem dX10_otherwise_7 : decode cX10_otherwise 7 = .ok (.if_icmp .ge 29, 3) := by decide +kernel
theorem dX10_otherwise_10 : decode cX10_otherwise 10 = .ok (.aload_n 0, 1) := by decide +kernel
theorem dX10_otherwise_11 : decode cX10_otherwise 11 = .ok (.getfield 61, 3) := by decide +kernel
theorem dX10_otherwise_14 : decode cX10_otherwise 14 = .ok (.invokevirtual 171, 3) := by decide +kernel
theorem dX10_otherwise_17 : decode cX10_otherwise 17 = .ok (.iconst 1, 1) := by decide +kernel
theorem dX10_otherwise_18 : decode cX10_otherwise 18 = .ok (.iadd, 1) := by decide +kernel
theorem dX10_otherwise_19 : decode cX10_otherwise 19 = .ok (.aload_n 1, 1) := by decide +kernel
theorem dX10_otherwise_20 : decode cX10_otherwise 20 = .ok (.getfield 246, 3) := by decide +kernel
theorem dX10_otherwise_23 : decode cX10_otherwise 23 = .ok (.iload_n 2, 1) := by decide +kernel
theorem dX10_otherwise_24 : decode cX10_otherwise 24 = .ok (.iaload, 1) := by decide +kernel
theorem dX10_otherwise_25 : decode cX10_otherwise 25 = .ok (.if_icmp .eq 5, 3) := by decide +kernel
theorem dX10_otherwise_28 : decode cX10_otherwise 28 = .ok (.iload_n 2, 1) := by decide +kernel
theorem dX10_otherwise_29 : decode cX10_otherwise 29 = .ok (.ireturn, 1) := by decide +kernel
theorem dX10_otherwise_30 : decode cX10_otherwise 30 = .ok (.iinc 2 1, 3) := by decide +kernel
theorem dX10_otherwise_33 : decode cX10_otherwise 33 = .ok (.goto (-31), 3) := by decide +kernel
theorem dX10_otherwise_36 : decode cX10_otherwise 36 = .ok (.iconst (-1), 1) := by decide +kernel
theorem dX10_otherwise_37 : decode cX10_otherwise 37 = .ok (.ireturn, 1) := by decide +kernel
set_option maxHeartbeats 4000000 in
set_option maxRecDepth 100000 in
theorem c_X10_otherwise (d : Nat) (TX : gTX) (nT n l : Nat) (P s : gS) (hI : cI TX nT n l 54 P s) (u : Nat) (hu : u < 4) (z : Nat) (hz : z ≤ 20) (fn : Nat → Int32) (ez : s (30 + 2 * u) 2 = nI z) (hf : ∀ j, j < 40 → s (30 + 2 * u + 1) j = fn j) : gMt SC yX10_otherwise cX10_otherwise 3 (some .int) (d + 9) (fun ad => [.ref (ad 0), .ref (ad (30 + 2 * u))]) s (gQi SC (fun r s' => Fr (mW 54) s s' ∧ r = x_oth TX P fn z 0)) := by
  have hn6 : n ≤ 6 := hI.2.2.1.2.1
  have hmw : ∀ k, 30 ≤ k → k < 38 → ¬ mW 54 k := fun k h1 h2 => by unfold mW mS; omega
  refine gMt_of SC_ok (by decide +kernel) (fun ad => [some (.ref (ad 0)), some (.ref (ad (30 + 2 * u))), none]) (fun _ => rfl) (fun _ => rfl) (fun _ => Nat.le_of_ble_eq_true rfl) (fun E C0 => ?_)
  have C : gCx SC E RX10 cX10_otherwise 3 (some .int) (d + 9) := C0
  have i : cI TX nT n l 54 P s := hI
  have f : Fr (mW 54) s s := Fr.rf
  refine G_iconst (v := 0) C 1 dX10_otherwise_0 rfl rfl ?_
  refine G_istore_n (i := 2) (L' := [some (.ref (e_ad E 0)), some (.ref (e_ad E (30 + 2 * u))), some (.int 0)]) C 2 dX10_otherwise_1 rfl rfl (Nat.le_of_ble_eq_true rfl) rfl rfl ?_
  have L2 : ∀ (f2 : Nat) (k : Nat) (y : Int32) (sl2 : gS) (Ey : y = nI k) (hk : k ≤ z) (ho : x_oth TX P fn z 0 = x_oth TX P fn (z - k) k) (il2 : cI TX nT n l 54 (x_run TX k P) sl2) (fl2 : Fr (mW 54) s sl2), z < k + f2 → GW SC E (gFin SC E (gQi SC (fun r s' => Fr (mW 54) s s' ∧ r = x_oth TX P fn z 0))) 2 [some (.ref (e_ad E 0)), some (.ref (e_ad E (30 + 2 * u))), some (.int y)] [] sl2 := by
    intro f2
    induction f2 with
    | zero =>
      intro k y sl2 Ey hk ho il2 fl2 hf2
      exact absurd hf2 (by omega)
    | succ f2 ih2 =>
      intro k y sl2 Ey hk ho il2 fl2 hf2
      refine G_iload_n (i := 2) C 3 dX10_otherwise_2 rfl rfl rfl ?_
      refine G_aload_n (i := 1) C 4 dX10_otherwise_3 rfl rfl rfl ?_
      refine X10_242g C hu 7 dX10_otherwise_4 rfl (fun x4 ex4 => ?_)
      have Sx4 : x4 = nI z := ex4.trans ((congrFun (fl2 _ (hmw _ (by omega) (by omega))) 2).trans ez)
      refine G_icmp_ge C 36 10 dX10_otherwise_7 rfl rfl (fun c7 => ?_) (fun c7 => ?_)
      ·
        have n7 : ¬ k < z := fun h => c7 ((g_ltN (a := k) (b := z) (hx := Ey) (hy := Sx4) (by omega) (by omega)).mpr h)
        refine G_iconst (v := (-1)) C 37 dX10_otherwise_36 rfl rfl ?_
        exact G_iret C dX10_otherwise_37 (⟨fl2, by rw [ho, show z - k = 0 by omega]; rfl⟩)
      ·
        have n7 : k < z := (g_ltN (a := k) (b := z) (hx := Ey) (hy := Sx4) (by omega) (by omega)).mp c7
        refine G_aload_n (i := 0) C 11 dX10_otherwise_10 rfl rfl rfl ?_
        refine X10_61g C 14 dX10_otherwise_11 rfl ?_
        refine G_calli 17 (G_runV C Kc_X9_pass KV_X10_171 (by omega) (lW0 (Or.inr (Or.inl rfl))) (eW _ _ _ (Or.inr (Or.inl rfl))) rfl (c_X9_pass 0 TX nT n l 54 (x_run TX k P) sl2 il2) rfl rfl rfl (Nat.le_of_ble_eq_true rfl) rfl dX10_otherwise_14) rfl (fun x14 s14 h14 => ?_)
        have i_1 : cI TX nT n l 54 (x_run TX (k + 1) P) s14 := h14.2.1
        have f_1 : Fr (mW 54) s s14 := Fr.tr fl2 h14.1
        refine G_iconst (v := 1) C 18 dX10_otherwise_17 rfl rfl ?_
        refine G_iadd C 19 dX10_otherwise_18 rfl (fun x18 ex18 => ?_)
        refine G_aload_n (i := 1) C 20 dX10_otherwise_19 rfl rfl rfl ?_
        refine X10_246g C hu 23 dX10_otherwise_20 rfl ?_
        refine G_iload_n (i := 2) C 24 dX10_otherwise_23 rfl rfl rfl ?_
        refine G_iald (n := 40) C 25 (lS hu (by decide)) (eSn _ _ _ hu) (k) Ey (by omega) (by decide) dX10_otherwise_24 rfl (fun x24 ex24 => ?_)
        have Sx24 : x24 = fn k := ex24.trans ((congrFun (f_1 _ (hmw _ (by omega) (by omega))) k).trans (hf k (by omega)))
        refine G_icmp_eq C 30 28 dX10_otherwise_25 rfl rfl (fun c25 => ?_) (fun c25 => ?_)
        ·
          refine G_iinc (w := 1) C 33 dX10_otherwise_30 rfl rfl rfl rfl (fun x30 ex30 => ?_)
          have Nx30 : x30 = nI (k + 1) := g_addN ex30 Ey rfl
          show GW SC E _ 33 [some (.ref (e_ad E 0)), some (.ref (e_ad E (30 + 2 * u))), some (.int x30)] [] s14
          refine G_goto C 2 dX10_otherwise_33 rfl ?_
          exact ih2 (k + 1) x30 s14 (g_cn (a := (k + 1)) Nx30 (by first | rfl | omega | (simp only [List.length_cons, List.length_drop]; done) | (simp only [List.length_cons, List.length_drop]; omega))) (by omega) (by rw [ho, show z - k = (z - (k + 1)) + 1 by omega, x_oth, if_pos (by rw [← h14.2.2, ← ex18, ← Sx24]; exact c25)]) (i_1) f_1 (by omega)
        ·
          refine G_iload_n (i := 2) C 29 dX10_otherwise_28 rfl rfl rfl ?_
          exact G_iret C dX10_otherwise_29 (⟨f_1, by rw [ho, show z - k = (z - (k + 1)) + 1 by omega, x_oth, if_neg (by rw [← h14.2.2, ← ex18, ← Sx24]; exact c25)]; exact Ey⟩)
  exact L2 (z + 1) 0 0 s (g_cn (a := 0) rfl (by first | rfl | omega)) (by omega) (rfl) (i) f (by omega)
theorem dX10_judge_0 : decode cX10_judge 0 = .ok (.aload_n 0, 1) := by decide +kernel
theorem dX10_judge_1 : decode cX10_judge 1 = .ok (.iload_n 1, 1) := by decide +kernel
theorem dX10_judge_2 : decode cX10_judge 2 = .ok (.invokevirtual 212, 3) := by decide +kernel
theorem dX10_judge_5 : decode cX10_judge 5 = .ok (.istore_n 2, 1) := by decide +kernel
theorem dX10_judge_6 : decode cX10_judge 6 = .ok (.iload_n 2, 1) := by decide +kernel
theorem dX10_judge_7 : decode cX10_judge 7 = .ok (.ifCond .eq 5, 3) := by decide +kernel
theorem dX10_judge_10 : decode cX10_judge 10 = .ok (.iload_n 2, 1) := by decide +kernel
theorem dX10_judge_11 : decode cX10_judge 11 = .ok (.ireturn, 1) := by decide +kernel
theorem dX10_judge_12 : decode cX10_judge 12 = .ok (.aload_n 0, 1) := by decide +kernel
theorem dX10_judge_13 : decode cX10_judge 13 = .ok (.getfield 61, 3) := by decide +kernel
theorem dX10_judge_16 : decode cX10_judge 16 = .ok (.aload_n 0, 1) := by decide +kernel
theorem dX10_judge_17 : decode cX10_judge 17 = .ok (.getfield 57, 3) := by decide +kernel
theorem dX10_judge_20 : decode cX10_judge 20 = .ok (.invokevirtual 174, 3) := by decide +kernel
theorem dX10_judge_23 : decode cX10_judge 23 = .ok (.aload_n 0, 1) := by decide +kernel
theorem dX10_judge_24 : decode cX10_judge 24 = .ok (.aload_n 0, 1) := by decide +kernel
theorem dX10_judge_25 : decode cX10_judge 25 = .ok (.getfield 17, 3) := by decide +kernel
theorem dX10_judge_28 : decode cX10_judge 28 = .ok (.iload_n 1, 1) := by decide +kernel
theorem dX10_judge_29 : decode cX10_judge 29 = .ok (.aaload, 1) := by decide +kernel
theorem dX10_judge_30 : decode cX10_judge 30 = .ok (.invokevirtual 215, 3) := by decide +kernel
theorem dX10_judge_33 : decode cX10_judge 33 = .ok (.ireturn, 1) := by decide +kernel
set_option maxHeartbeats 4000000 in
set_option maxRecDepth 100000 in
theorem c_X10_judge (d : Nat) (TX : gTX) (P B s : gS) (hR0 : RC TX P B s) (t : Int32) : gMt SC yX10_judge cX10_judge 3 (some .int) (d + 10) (fun ad => [.ref (ad 0), .int t]) s (gQi SC (fun r s' => RC TX P B s' ∧ r = s_judge TX P B t)) := by
  obtain ⟨nT, n, l, hR⟩ := hR0
  have hI := hR.1
  have hn6 : n ≤ 6 := hI.2.2.1.2.1
  have hl6 : l < 6 := cI_l6 hI
  have hxn : x_n P = n := x_nOf hI.2.2.1.1 hn6
  have hbI := hR.2.2
  refine gMt_of SC_ok (by decide +kernel) (fun ad => [some (.ref (ad 0)), some (.int t), none]) (fun _ => rfl) (fun _ => rfl) (fun _ => Nat.le_of_ble_eq_true rfl) (fun E C0 => ?_)
  have C : gCx SC E RX10 cX10_judge 3 (some .int) (d + 10) := C0
  have fm : cI TX nT n l 45 P s := hI
  have fq : Fr mQ s s := Fr.rf
  refine G_aload_n (i := 0) C 1 dX10_judge_0 rfl rfl rfl ?_
  refine G_iload_n (i := 1) C 2 dX10_judge_1 rfl rfl rfl ?_
  refine G_calli 5 (G_runV C Kc_X10_refusalToJudge KV_X10_212 (by omega) (by decide) (eC _ _ _) rfl (c_X10_refusalToJudge 0 TX P B s (RC_q hR fq) t) rfl rfl rfl (Nat.le_of_ble_eq_true rfl) rfl dX10_judge_2) rfl (fun x2 s2 h2 => ?_)
  obtain ⟨es2, h2⟩ := h2
  have es2 := es2.symm
  subst es2
  refine G_istore_n (i := 2) (L' := [some (.ref (e_ad E 0)), some (.int t), some (.int x2)]) C 6 dX10_judge_5 rfl rfl (Nat.le_of_ble_eq_true rfl) rfl rfl ?_
  refine G_iload_n (i := 2) C 7 dX10_judge_6 rfl rfl rfl ?_
  refine G_if_eq C 12 10 dX10_judge_7 rfl rfl (fun c7 => ?_) (fun c7 => ?_)
  ·
    have k7 := h2.symm.trans c7
    obtain ⟨ut, hut, eut, cut, z, hz20, ez⟩ := s_refI hbI.2.2.2.2.1 k7
    refine G_aload_n (i := 0) C 13 dX10_judge_12 rfl rfl rfl ?_
    refine X10_61g C 16 dX10_judge_13 rfl ?_
    refine G_aload_n (i := 0) C 17 dX10_judge_16 rfl rfl rfl ?_
    refine X10_57g C 20 dX10_judge_17 rfl ?_
    refine G_callv 23 (G_runV C Kc_X9_become KV_X10_174 (by omega) (lW0 (Or.inr (Or.inl rfl))) (eW _ _ _ (Or.inr (Or.inl rfl))) rfl (c_X9_become 0 54 45 (Or.inr (Or.inl rfl)) (Or.inl rfl) (by decide) s) rfl rfl rfl (Nat.le_of_ble_eq_true rfl) rfl dX10_judge_20) rfl (fun s20 h20 => ?_)
    have fm_1 : cI TX nT n l 45 P s20 := cI_q fm (h20.1.UQ)
    have fq_1 : Fr mQ s s20 := Fr.tr fq (h20.1.UQ)
    have i_1 : cI TX nT n l 54 P s20 := cI_bec fm_1 h20.1 h20.2
    refine G_aload_n (i := 0) C 24 dX10_judge_23 rfl rfl rfl ?_
    refine G_aload_n (i := 0) C 25 dX10_judge_24 rfl rfl rfl ?_
    refine X10_17g C 28 dX10_judge_25 rfl ?_
    refine G_iload_n (i := 1) C 29 dX10_judge_28 rfl rfl rfl ?_
    refine G_aald (r := (30 + 2 * ut)) C 30 (by decide) (eC2 _ _ _) (fun _ => rfl) (ut) eut (by omega) (by decide) rfl dX10_judge_29 rfl ?_
    refine G_calli 33 (G_runV C Kc_X10_otherwise KV_X10_215 (by omega) (by decide) (eC _ _ _) rfl (c_X10_otherwise 0 TX nT n l P s20 i_1 ut (by omega) z hz20 (B (4 + ut)) ((cB_sz (Rc_q hR fq_1).2.1 hut).trans ez) (fun j hj => cB_nu (Rc_q hR fq_1).2.1 hut hj)) rfl rfl rfl (Nat.le_of_ble_eq_true rfl) rfl dX10_judge_30) rfl (fun x30 s30 h30 => ?_)
    have fm_2 : cI TX nT n l 45 P s30 := cI_q fm_1 (h30.1.Q)
    have fq_2 : Fr mQ s s30 := Fr.tr fq_1 (h30.1.Q)
    exact G_iret C dX10_judge_33 (⟨RC_q hR fq_2, by unfold s_judge x_un; rw [if_pos k7, cut, ez, nI_clamp (by omega)]; exact h30.2⟩)
  ·
    have k7 := g_neT h2 c7
    refine G_iload_n (i := 2) C 11 dX10_judge_10 rfl rfl rfl ?_
    exact G_iret C dX10_judge_11 (⟨RC_q hR fq, by unfold s_judge; rw [if_neg k7]; exact h2⟩)
theorem dX10_kinds_0 : decode cX10_kinds 0 = .ok (.aload_n 0, 1) := by decide +kernel
theorem dX10_kinds_1 : decode cX10_kinds 1 = .ok (.iload_n 1, 1) := by decide +kernel
theorem dX10_kinds_2 : decode cX10_kinds 2 = .ok (.invokevirtual 212, 3) := by decide +kernel
theorem dX10_kinds_5 : decode cX10_kinds 5 = .ok (.istore 4, 2) := by decide +kernel
theorem dX10_kinds_7 : decode cX10_kinds 7 = .ok (.iload 4, 2) := by decide +kernel
theorem dX10_kinds_9 : decode cX10_kinds 9 = .ok (.ifCond .eq 6, 3) := by decide +kernel
theorem dX10_kinds_12 : decode cX10_kinds 12 = .ok (.iload 4, 2) := by decide +kernel
theorem dX10_kinds_14 : decode cX10_kinds 14 = .ok (.ireturn, 1) := by decide +kernel
theorem dX10_kinds_15 : decode cX10_kinds 15 = .ok (.aload_n 0, 1) := by decide +kernel
theorem dX10_kinds_16 : decode cX10_kinds 16 = .ok (.getfield 57, 3) := by decide +kernel
theorem dX10_kinds_19 : decode cX10_kinds 19 = .ok (.iload_n 2, 1) := by decide +kernel
theorem dX10_kinds_20 : decode cX10_kinds 20 = .ok (.invokevirtual 139, 3) := by decide +kernel
theorem dX10_kinds_23 : decode cX10_kinds 23 = .ok (.ifCond .ne 6, 3) := by decide +kernel
theorem dX10_kinds_26 : decode cX10_kinds 26 = .ok (.bipush (-5), 2) := by decide +kernel
theorem dX10_kinds_28 : decode cX10_kinds 28 = .ok (.ireturn, 1) := by decide +kernel
theorem dX10_kinds_29 : decode cX10_kinds 29 = .ok (.iload_n 3, 1) := by decide +kernel
theorem dX10_kinds_30 : decode cX10_kinds 30 = .ok (.iconst 0, 1) := by decide +kernel
theorem dX10_kinds_31 : decode cX10_kinds 31 = .ok (.iconst 1, 1) := by decide +kernel
theorem dX10_kinds_32 : decode cX10_kinds 32 = .ok (.invokestatic 112, 3) := by decide +kernel
theorem dX10_kinds_35 : decode cX10_kinds 35 = .ok (.ifCond .ne 6, 3) := by decide +kernel
theorem dX10_kinds_38 : decode cX10_kinds 38 = .ok (.bipush (-7), 2) := by decide +kernel
theorem dX10_kinds_40 : decode cX10_kinds 40 = .ok (.ireturn, 1) := by decide +kernel
theorem dX10_kinds_41 : decode cX10_kinds 41 = .ok (.iload_n 3, 1) := by decide +kernel
theorem dX10_kinds_42 : decode cX10_kinds 42 = .ok (.ifCond .ne 13, 3) := by decide +kernel
theorem dX10_kinds_45 : decode cX10_kinds 45 = .ok (.aload_n 0, 1) := by decide +kernel
theorem dX10_kinds_46 : decode cX10_kinds 46 = .ok (.getfield 61, 3) := by decide +kernel
theorem dX10_kinds_49 : decode cX10_kinds 49 = .ok (.getfield 219, 3) := by decide +kernel
theorem dX10_kinds_52 : decode cX10_kinds 52 = .ok (.goto 10, 3) := by decide +kernel
theorem dX10_kinds_55 : decode cX10_kinds 55 = .ok (.aload_n 0, 1) := by decide +kernel
theorem dX10_kinds_56 : decode cX10_kinds 56 = .ok (.getfield 61, 3) := by decide +kernel
theorem dX10_kinds_59 : decode cX10_kinds 59 = .ok (.getfield 222, 3) := by decide +kernel
theorem dX10_kinds_62 : decode cX10_kinds 62 = .ok (.astore 5, 2) := by decide +kernel
theorem dX10_kinds_64 : decode cX10_kinds 64 = .ok (.iconst 0, 1) := by decide +kernel
theorem dX10_kinds_65 : decode cX10_kinds 65 = .ok (.istore 6, 2) := by decide +kernel
theorem dX10_kinds_67 : decode cX10_kinds 67 = .ok (.iconst 0, 1) := by decide +kernel
theorem dX10_kinds_68 : decode cX10_kinds 68 = .ok (.istore 7, 2) := by decide +kernel
theorem dX10_kinds_70 : decode cX10_kinds 70 = .ok (.iload 7, 2) := by decide +kernel
theorem dX10_kinds_72 : decode cX10_kinds 72 = .ok (.iload_n 3, 1) := by decide +kernel
theorem dX10_kinds_73 : decode cX10_kinds 73 = .ok (.ifCond .ne 8, 3) := by decide +kernel
theorem dX10_kinds_76 : decode cX10_kinds 76 = .ok (.bipush 6, 2) := by decide +kernel
theorem dX10_kinds_78 : decode cX10_kinds 78 = .ok (.goto 5, 3) := by decide +kernel
theorem dX10_kinds_81 : decode cX10_kinds 81 = .ok (.bipush 10, 2) := by decide +kernel
theorem dX10_kinds_83 : decode cX10_kinds 83 = .ok (.if_icmp .ge 53, 3) := by decide +kernel
theorem dX10_kinds_86 : decode cX10_kinds 86 = .ok (.aload_n 0, 1) := by decide +kernel
theorem dX10_kinds_87 : decode cX10_kinds 87 = .ok (.getfield 61, 3) := by decide +kernel
theorem dX10_kinds_90 : decode cX10_kinds 90 = .ok (.aload_n 0, 1) := by decide +kernel
theorem dX10_kinds_91 : decode cX10_kinds 91 = .ok (.getfield 57, 3) := by decide +kernel
theorem dX10_kinds_94 : decode cX10_kinds 94 = .ok (.invokevirtual 174, 3) := by decide +kernel
theorem dX10_kinds_97 : decode cX10_kinds 97 = .ok (.aload 5, 2) := by decide +kernel
theorem dX10_kinds_99 : decode cX10_kinds 99 = .ok (.iload_n 2, 1) := by decide +kernel
theorem dX10_kinds_100 : decode cX10_kinds 100 = .ok (.iload 7, 2) := by decide +kernel
theorem dX10_kinds_102 : decode cX10_kinds 102 = .ok (.iastore, 1) := by decide +kernel
theorem dX10_kinds_103 : decode cX10_kinds 103 = .ok (.iload 6, 2) := by decide +kernel
theorem dX10_kinds_105 : decode cX10_kinds 105 = .ok (.aload_n 0, 1) := by decide +kernel
theorem dX10_kinds_106 : decode cX10_kinds 106 = .ok (.aload_n 0, 1) := by decide +kernel
theorem dX10_kinds_107 : decode cX10_kinds 107 = .ok (.getfield 17, 3) := by decide +kernel
theorem dX10_kinds_110 : decode cX10_kinds 110 = .ok (.iload_n 1, 1) := by decide +kernel
theorem dX10_kinds_111 : decode cX10_kinds 111 = .ok (.aaload, 1) := by decide +kernel
theorem dX10_kinds_112 : decode cX10_kinds 112 = .ok (.invokevirtual 215, 3) := by decide +kernel
theorem dX10_kinds_115 : decode cX10_kinds 115 = .ok (.iconst (-1), 1) := by decide +kernel
theorem dX10_kinds_116 : decode cX10_kinds 116 = .ok (.if_icmp .ne 10, 3) := by decide +kernel
theorem dX10_kinds_119 : decode cX10_kinds 119 = .ok (.iconst 1, 1) := by decide +kernel
theorem dX10_kinds_120 : decode cX10_kinds 120 = .ok (.iload 7, 2) := by decide +kernel
theorem dX10_kinds_122 : decode cX10_kinds 122 = .ok (.ishl, 1) := by decide +kernel
theorem dX10_kinds_123 : decode cX10_kinds 123 = .ok (.goto 4, 3) := by decide +kernel
theorem dX10_kinds_126 : decode cX10_kinds 126 = .ok (.iconst 0, 1) := by decide +kernel
theorem dX10_kinds_127 : decode cX10_kinds 127 = .ok (.ior, 1) := by decide +kernel
theorem dX10_kinds_128 : decode cX10_kinds 128 = .ok (.istore 6, 2) := by decide +kernel
theorem dX10_kinds_130 : decode cX10_kinds 130 = .ok (.iinc 7 1, 3) := by decide +kernel
theorem dX10_kinds_133 : decode cX10_kinds 133 = .ok (.goto (-63), 3) := by decide +kernel
theorem dX10_kinds_136 : decode cX10_kinds 136 = .ok (.iload 6, 2) := by decide +kernel
theorem dX10_kinds_138 : decode cX10_kinds 138 = .ok (.ireturn, 1) := by decide +kernel
set_option maxHeartbeats 4000000 in
set_option maxRecDepth 100000 in
theorem c_X10_kinds (d : Nat) (TX : gTX) (P B s : gS) (hR0 : RC TX P B s) (t p q : Int32) : gMt SC yX10_kinds cX10_kinds 8 (some .int) (d + 10) (fun ad => [.ref (ad 0), .int t, .int p, .int q]) s (gQi SC (fun r s' => RC TX P B s' ∧ r = s_kinds TX P B t p q)) := by
  obtain ⟨nT, n, l, hR⟩ := hR0
  have hI := hR.1
  have hn6 : n ≤ 6 := hI.2.2.1.2.1
  have hl6 : l < 6 := cI_l6 hI
  have hxn : x_n P = n := x_nOf hI.2.2.1.1 hn6
  have hbI := hR.2.2
  refine gMt_of SC_ok (by decide +kernel) (fun ad => [some (.ref (ad 0)), some (.int t), some (.int p), some (.int q), none, none, none, none]) (fun _ => rfl) (fun _ => rfl) (fun _ => Nat.le_of_ble_eq_true rfl) (fun E C0 => ?_)
  have C : gCx SC E RX10 cX10_kinds 8 (some .int) (d + 10) := C0
  have fm : cI TX nT n l 45 P s := hI
  have fq : Fr mQ s s := Fr.rf
  refine G_aload_n (i := 0) C 1 dX10_kinds_0 rfl rfl rfl ?_
  refine G_iload_n (i := 1) C 2 dX10_kinds_1 rfl rfl rfl ?_
  refine G_calli 5 (G_runV C Kc_X10_refusalToJudge KV_X10_212 (by omega) (by decide) (eC _ _ _) rfl (c_X10_refusalToJudge 0 TX P B s (RC_q hR fq) t) rfl rfl rfl (Nat.le_of_ble_eq_true rfl) rfl dX10_kinds_2) rfl (fun x2 s2 h2 => ?_)
  obtain ⟨es2, h2⟩ := h2
  have es2 := es2.symm
  subst es2
  refine G_istore (L' := [some (.ref (e_ad E 0)), some (.int t), some (.int p), some (.int q), some (.int x2), none, none, none]) C 7 dX10_kinds_5 rfl (Nat.le_of_ble_eq_true rfl) rfl rfl ?_
  refine G_iload C 9 dX10_kinds_7 rfl rfl ?_
  refine G_if_eq C 15 12 dX10_kinds_9 rfl rfl (fun c9 => ?_) (fun c9 => ?_)
  ·
    have k9 := h2.symm.trans c9
    obtain ⟨ut, hut, eut, cut, z, hz20, ez⟩ := s_refI hbI.2.2.2.2.1 k9
    refine G_aload_n (i := 0) C 16 dX10_kinds_15 rfl rfl rfl ?_
    refine X10_57g C 19 dX10_kinds_16 rfl ?_
    refine G_iload_n (i := 2) C 20 dX10_kinds_19 rfl rfl rfl ?_
    refine G_calli 23 (G_runV C Kc_X9_isOne KV_X10_139 (by omega) (lW0 (Or.inl rfl)) (eW _ _ _ (Or.inl rfl)) rfl (c_X9_isOne 0 45 n (Or.inl rfl) s (cI_n fm) p) rfl rfl rfl (Nat.le_of_ble_eq_true rfl) rfl dX10_kinds_20) rfl (fun x20 s20 h20 => ?_)
    obtain ⟨es20, h20⟩ := h20
    have es20 := es20.symm
    subst es20
    refine G_if_ne C 29 26 dX10_kinds_23 rfl rfl (fun c23 => ?_) (fun c23 => ?_)
    ·
      have k23 := g_neT h20 c23
      obtain ⟨up, hup, eup⟩ := x_oneT hn6 k23
      have cup : p.toNatClampNeg = up := by rw [eup, nI_clamp (by omega)]
      refine G_iload_n (i := 3) C 30 dX10_kinds_29 rfl rfl rfl ?_
      refine G_iconst (v := 0) C 31 dX10_kinds_30 rfl rfl ?_
      refine G_iconst (v := 1) C 32 dX10_kinds_31 rfl rfl ?_
      refine G_calli 35 (G_runS C Kc_X10_within KS_X10_112 (by omega) (c_X10_within 0 q 0 1 s) rfl rfl (Nat.le_of_ble_eq_true rfl) rfl dX10_kinds_32) rfl (fun x32 s32 h32 => ?_)
      obtain ⟨es32, h32⟩ := h32
      have es32 := es32.symm
      subst es32
      refine G_if_ne C 41 38 dX10_kinds_35 rfl rfl (fun c35 => ?_) (fun c35 => ?_)
      ·
        have k35 := g_neT h32 c35
        obtain ⟨uq, huq, euq⟩ := x_inR (b := 1) k35 rfl (by decide)
        have zuq : uq = 0 ∨ uq = 1 := by omega
        rcases zuq with rfl | rfl
        ·
          obtain rfl : q = 0 := euq
          refine G_iload_n (i := 3) C 42 dX10_kinds_41 rfl rfl rfl ?_
          refine G_if_ne C 55 45 dX10_kinds_42 rfl rfl (fun c => absurd c (by decide)) (fun _ => ?_)
          refine G_aload_n (i := 0) C 46 dX10_kinds_45 rfl rfl rfl ?_
          refine X10_61g C 49 dX10_kinds_46 rfl ?_
          refine X10_219g C (Or.inr (Or.inl rfl)) 52 dX10_kinds_49 rfl ?_
          refine G_goto C 62 dX10_kinds_52 rfl ?_
          refine G_astore (L' := [some (.ref (e_ad E 0)), some (.int t), some (.int p), some (.int 0), some (.int x2), some (.ref (e_ad E (54 + 6))), none, none]) C 64 dX10_kinds_62 rfl (Nat.le_of_ble_eq_true rfl) rfl rfl ?_
          refine G_iconst (v := 0) C 65 dX10_kinds_64 rfl rfl ?_
          refine G_istore (L' := [some (.ref (e_ad E 0)), some (.int t), some (.int p), some (.int 0), some (.int x2), some (.ref (e_ad E (54 + 6))), some (.int 0), none]) C 67 dX10_kinds_65 rfl (Nat.le_of_ble_eq_true rfl) rfl rfl ?_
          refine G_iconst (v := 0) C 68 dX10_kinds_67 rfl rfl ?_
          refine G_istore (L' := [some (.ref (e_ad E 0)), some (.int t), some (.int p), some (.int 0), some (.int x2), some (.ref (e_ad E (54 + 6))), some (.int 0), some (.int 0)]) C 70 dX10_kinds_68 rfl (Nat.le_of_ble_eq_true rfl) rfl rfl ?_
          have L70 : ∀ (f70 : Nat) (k : Nat) (fi y : Int32) (sl70 : gS) (Ey : y = nI k) (hk : k ≤ 6) (hfi : fi = x_fit TX B ut (fun v => g_up P 6 up (nI v)) k) (fml70 : cI TX nT n l 45 P sl70) (fql70 : Fr mQ s sl70), 6 < k + f70 → GW SC E (gFin SC E (gQi SC (fun r s' => RC TX P B s' ∧ r = s_kinds TX P B t p 0))) 70 [some (.ref (e_ad E 0)), some (.int t), some (.int p), some (.int 0), some (.int x2), some (.ref (e_ad E (54 + 6))), some (.int fi), some (.int y)] [] sl70 := by
            intro f70
            induction f70 with
            | zero =>
              intro k fi y sl70 Ey hk hfi fml70 fql70 hf70
              exact absurd hf70 (by omega)
            | succ f70 ih70 =>
              intro k fi y sl70 Ey hk hfi fml70 fql70 hf70
              refine G_iload C 72 dX10_kinds_70 rfl rfl ?_
              refine G_iload_n (i := 3) C 73 dX10_kinds_72 rfl rfl rfl ?_
              refine G_if_ne C 81 76 dX10_kinds_73 rfl rfl (fun c => absurd c (by decide)) (fun _ => ?_)
              refine G_bipush (v := 6) C 78 dX10_kinds_76 rfl rfl ?_
              refine G_goto C 83 dX10_kinds_78 rfl ?_
              refine G_icmp_ge C 136 86 dX10_kinds_83 rfl rfl (fun c83 => ?_) (fun c83 => ?_)
              ·
                have n83 : ¬ k < 6 := fun h => c83 ((g_ltN (a := k) (b := 6) (hx := Ey) (hy := rfl) (by omega) (by omega)).mpr h)
                refine G_iload C 138 dX10_kinds_136 rfl rfl ?_
                exact G_iret C dX10_kinds_138 (⟨RC_q hR fql70, by unfold s_kinds; rw [if_pos k9, hxn, if_neg k23, if_neg k35, if_pos rfl, cut, cup, hfi, show k = 6 by omega]⟩)
              ·
                have n83 : k < 6 := (g_ltN (a := k) (b := 6) (hx := Ey) (hy := rfl) (by omega) (by omega)).mp c83
                refine G_aload_n (i := 0) C 87 dX10_kinds_86 rfl rfl rfl ?_
                refine X10_61g C 90 dX10_kinds_87 rfl ?_
                refine G_aload_n (i := 0) C 91 dX10_kinds_90 rfl rfl rfl ?_
                refine X10_57g C 94 dX10_kinds_91 rfl ?_
                refine G_callv 97 (G_runV C Kc_X9_become KV_X10_174 (by omega) (lW0 (Or.inr (Or.inl rfl))) (eW _ _ _ (Or.inr (Or.inl rfl))) rfl (c_X9_become 0 54 45 (Or.inr (Or.inl rfl)) (Or.inl rfl) (by decide) sl70) rfl rfl rfl (Nat.le_of_ble_eq_true rfl) rfl dX10_kinds_94) rfl (fun s94 h94 => ?_)
                have fm_1 : cI TX nT n l 45 P s94 := cI_q fml70 (h94.1.UQ)
                have fq_1 : Fr mQ s s94 := Fr.tr fql70 (h94.1.UQ)
                have i_1 : cI TX nT n l 54 P s94 := cI_bec fm_1 h94.1 h94.2
                refine G_aload C 99 dX10_kinds_97 rfl rfl ?_
                refine G_iload_n (i := 2) C 100 dX10_kinds_99 rfl rfl rfl ?_
                refine G_iload C 102 dX10_kinds_100 rfl rfl ?_
                refine G_iast (n := 6) C 103 (lW (Or.inr (Or.inl rfl)) (by decide)) (fun σ => eW6 _ _ σ (Or.inr (Or.inl rfl))) (up) eup (by omega) (by decide) (Nat.le_of_eq (nWi (Or.inr (Or.inl rfl)) (by decide) (by decide)).symm) dX10_kinds_102 rfl (fun s102 es102 => ?_)
                have fm_2 : cI TX nT n l 45 P s102 := cI_q fm_1 (Fr.up es102 (mQ_w (by decide)))
                have fq_2 : Fr mQ s s102 := Fr.tr fq_1 (Fr.up es102 (mQ_w (by decide)))
                have i_2 : cI TX nT n l 54 (g_up P 6 up (nI k)) s102 := by have z := cI_up6 i_1 es102 hup ⟨k, by omega, Ey⟩; rw [Ey] at z; exact z
                refine G_iload C 105 dX10_kinds_103 rfl rfl ?_
                refine G_aload_n (i := 0) C 106 dX10_kinds_105 rfl rfl rfl ?_
                refine G_aload_n (i := 0) C 107 dX10_kinds_106 rfl rfl rfl ?_
                refine X10_17g C 110 dX10_kinds_107 rfl ?_
                refine G_iload_n (i := 1) C 111 dX10_kinds_110 rfl rfl rfl ?_
                refine G_aald (r := (30 + 2 * ut)) C 112 (by decide) (eC2 _ _ _) (fun _ => rfl) (ut) eut (by omega) (by decide) rfl dX10_kinds_111 rfl ?_
                refine G_calli 115 (G_runV C Kc_X10_otherwise KV_X10_215 (by omega) (by decide) (eC _ _ _) rfl (c_X10_otherwise 0 TX nT n l (g_up P 6 up (nI k)) s102 i_2 ut (by omega) z hz20 (B (4 + ut)) ((cB_sz (Rc_q hR fq_2).2.1 hut).trans ez) (fun j hj => cB_nu (Rc_q hR fq_2).2.1 hut hj)) rfl rfl rfl (Nat.le_of_ble_eq_true rfl) rfl dX10_kinds_112) rfl (fun x112 s112 h112 => ?_)
                have fm_3 : cI TX nT n l 45 P s112 := cI_q fm_2 (h112.1.Q)
                have fq_3 : Fr mQ s s112 := Fr.tr fq_2 (h112.1.Q)
                have hun : x112 = x_un TX B ut (g_up P 6 up (nI k)) := by unfold x_un; rw [ez, nI_clamp (by omega)]; exact h112.2
                refine G_iconst (v := (-1)) C 116 dX10_kinds_115 rfl rfl ?_
                refine G_icmp_ne C 126 119 dX10_kinds_116 rfl rfl (fun c116 => ?_) (fun c116 => ?_)
                ·
                  refine G_iconst (v := 0) C 127 dX10_kinds_126 rfl rfl ?_
                  refine G_ior C 128 dX10_kinds_127 rfl (fun x127 ex127 => ?_)
                  refine G_istore (L' := [some (.ref (e_ad E 0)), some (.int t), some (.int p), some (.int 0), some (.int x2), some (.ref (e_ad E (54 + 6))), some (.int x127), some (.int y)]) C 130 dX10_kinds_128 rfl (Nat.le_of_ble_eq_true rfl) rfl rfl ?_
                  refine G_iinc (w := 1) C 133 dX10_kinds_130 rfl rfl rfl rfl (fun x130 ex130 => ?_)
                  have Nx130 : x130 = nI (k + 1) := g_addN ex130 Ey rfl
                  show GW SC E _ 133 [some (.ref (e_ad E 0)), some (.int t), some (.int p), some (.int 0), some (.int x2), some (.ref (e_ad E (54 + 6))), some (.int x127), some (.int x130)] [] s112
                  refine G_goto C 70 dX10_kinds_133 rfl ?_
                  exact ih70 (k + 1) x127 x130 s112 (g_cn (a := (k + 1)) Nx130 (by first | rfl | omega | (simp only [List.length_cons, List.length_drop]; done) | (simp only [List.length_cons, List.length_drop]; omega))) (by omega) (by rw [x_fit, if_neg (by rw [← hun]; exact c116), ex127, y_or0, hfi]) fm_3 fq_3 (by omega)
                ·
                  refine G_iconst (v := 1) C 120 dX10_kinds_119 rfl rfl ?_
                  refine G_iload C 122 dX10_kinds_120 rfl rfl ?_
                  refine G_ishl C 123 dX10_kinds_122 rfl (fun x122 ex122 => ?_)
                  refine G_goto C 127 dX10_kinds_123 rfl ?_
                  refine G_ior C 128 dX10_kinds_127 rfl (fun x127 ex127 => ?_)
                  refine G_istore (L' := [some (.ref (e_ad E 0)), some (.int t), some (.int p), some (.int 0), some (.int x2), some (.ref (e_ad E (54 + 6))), some (.int x127), some (.int y)]) C 130 dX10_kinds_128 rfl (Nat.le_of_ble_eq_true rfl) rfl rfl ?_
                  refine G_iinc (w := 1) C 133 dX10_kinds_130 rfl rfl rfl rfl (fun x130 ex130 => ?_)
                  have Nx130 : x130 = nI (k + 1) := g_addN ex130 Ey rfl
                  show GW SC E _ 133 [some (.ref (e_ad E 0)), some (.int t), some (.int p), some (.int 0), some (.int x2), some (.ref (e_ad E (54 + 6))), some (.int x127), some (.int x130)] [] s112
                  refine G_goto C 70 dX10_kinds_133 rfl ?_
                  exact ih70 (k + 1) x127 x130 s112 (g_cn (a := (k + 1)) Nx130 (by first | rfl | omega | (simp only [List.length_cons, List.length_drop]; done) | (simp only [List.length_cons, List.length_drop]; omega))) (by omega) (by rw [x_fit, if_pos (hun.symm.trans c116), ex127, ex122, Ey, hfi]) fm_3 fq_3 (by omega)
          exact L70 (6 + 1) 0 0 0 s (g_cn (a := 0) rfl (by first | rfl | omega)) (by omega) (rfl) fm fq (by omega)
        ·
          obtain rfl : q = 1 := euq
          refine G_iload_n (i := 3) C 42 dX10_kinds_41 rfl rfl rfl ?_
          refine G_if_ne C 55 45 dX10_kinds_42 rfl rfl (fun _ => ?_) (fun c => absurd c (by decide))
          refine G_aload_n (i := 0) C 56 dX10_kinds_55 rfl rfl rfl ?_
          refine X10_61g C 59 dX10_kinds_56 rfl ?_
          refine X10_222g C (Or.inr (Or.inl rfl)) 62 dX10_kinds_59 rfl ?_
          refine G_astore (L' := [some (.ref (e_ad E 0)), some (.int t), some (.int p), some (.int 1), some (.int x2), some (.ref (e_ad E (54 + 7))), none, none]) C 64 dX10_kinds_62 rfl (Nat.le_of_ble_eq_true rfl) rfl rfl ?_
          refine G_iconst (v := 0) C 65 dX10_kinds_64 rfl rfl ?_
          refine G_istore (L' := [some (.ref (e_ad E 0)), some (.int t), some (.int p), some (.int 1), some (.int x2), some (.ref (e_ad E (54 + 7))), some (.int 0), none]) C 67 dX10_kinds_65 rfl (Nat.le_of_ble_eq_true rfl) rfl rfl ?_
          refine G_iconst (v := 0) C 68 dX10_kinds_67 rfl rfl ?_
          refine G_istore (L' := [some (.ref (e_ad E 0)), some (.int t), some (.int p), some (.int 1), some (.int x2), some (.ref (e_ad E (54 + 7))), some (.int 0), some (.int 0)]) C 70 dX10_kinds_68 rfl (Nat.le_of_ble_eq_true rfl) rfl rfl ?_
          have L70 : ∀ (f70 : Nat) (k : Nat) (fi y : Int32) (sl70 : gS) (Ey : y = nI k) (hk : k ≤ 10) (hfi : fi = x_fit TX B ut (fun v => g_up P 7 up (nI v)) k) (fml70 : cI TX nT n l 45 P sl70) (fql70 : Fr mQ s sl70), 10 < k + f70 → GW SC E (gFin SC E (gQi SC (fun r s' => RC TX P B s' ∧ r = s_kinds TX P B t p 1))) 70 [some (.ref (e_ad E 0)), some (.int t), some (.int p), some (.int 1), some (.int x2), some (.ref (e_ad E (54 + 7))), some (.int fi), some (.int y)] [] sl70 := by
            intro f70
            induction f70 with
            | zero =>
              intro k fi y sl70 Ey hk hfi fml70 fql70 hf70
              exact absurd hf70 (by omega)
            | succ f70 ih70 =>
              intro k fi y sl70 Ey hk hfi fml70 fql70 hf70
              refine G_iload C 72 dX10_kinds_70 rfl rfl ?_
              refine G_iload_n (i := 3) C 73 dX10_kinds_72 rfl rfl rfl ?_
              refine G_if_ne C 81 76 dX10_kinds_73 rfl rfl (fun _ => ?_) (fun c => absurd c (by decide))
              refine G_bipush (v := 10) C 83 dX10_kinds_81 rfl rfl ?_
              refine G_icmp_ge C 136 86 dX10_kinds_83 rfl rfl (fun c83 => ?_) (fun c83 => ?_)
              ·
                have n83 : ¬ k < 10 := fun h => c83 ((g_ltN (a := k) (b := 10) (hx := Ey) (hy := rfl) (by omega) (by omega)).mpr h)
                refine G_iload C 138 dX10_kinds_136 rfl rfl ?_
                exact G_iret C dX10_kinds_138 (⟨RC_q hR fql70, by unfold s_kinds; rw [if_pos k9, hxn, if_neg k23, if_neg k35, if_neg (by decide), cut, cup, hfi, show k = 10 by omega]⟩)
              ·
                have n83 : k < 10 := (g_ltN (a := k) (b := 10) (hx := Ey) (hy := rfl) (by omega) (by omega)).mp c83
                refine G_aload_n (i := 0) C 87 dX10_kinds_86 rfl rfl rfl ?_
                refine X10_61g C 90 dX10_kinds_87 rfl ?_
                refine G_aload_n (i := 0) C 91 dX10_kinds_90 rfl rfl rfl ?_
                refine X10_57g C 94 dX10_kinds_91 rfl ?_
                refine G_callv 97 (G_runV C Kc_X9_become KV_X10_174 (by omega) (lW0 (Or.inr (Or.inl rfl))) (eW _ _ _ (Or.inr (Or.inl rfl))) rfl (c_X9_become 0 54 45 (Or.inr (Or.inl rfl)) (Or.inl rfl) (by decide) sl70) rfl rfl rfl (Nat.le_of_ble_eq_true rfl) rfl dX10_kinds_94) rfl (fun s94 h94 => ?_)
                have fm_1 : cI TX nT n l 45 P s94 := cI_q fml70 (h94.1.UQ)
                have fq_1 : Fr mQ s s94 := Fr.tr fql70 (h94.1.UQ)
                have i_1 : cI TX nT n l 54 P s94 := cI_bec fm_1 h94.1 h94.2
                refine G_aload C 99 dX10_kinds_97 rfl rfl ?_
                refine G_iload_n (i := 2) C 100 dX10_kinds_99 rfl rfl rfl ?_
                refine G_iload C 102 dX10_kinds_100 rfl rfl ?_
                refine G_iast (n := 6) C 103 (lW (Or.inr (Or.inl rfl)) (by decide)) (fun σ => eW7 _ _ σ (Or.inr (Or.inl rfl))) (up) eup (by omega) (by decide) (Nat.le_of_eq (nWi (Or.inr (Or.inl rfl)) (by decide) (by decide)).symm) dX10_kinds_102 rfl (fun s102 es102 => ?_)
                have fm_2 : cI TX nT n l 45 P s102 := cI_q fm_1 (Fr.up es102 (mQ_w (by decide)))
                have fq_2 : Fr mQ s s102 := Fr.tr fq_1 (Fr.up es102 (mQ_w (by decide)))
                have i_2 : cI TX nT n l 54 (g_up P 7 up (nI k)) s102 := by have z := cI_up7 i_1 es102 hup; rw [Ey] at z; exact z
                refine G_iload C 105 dX10_kinds_103 rfl rfl ?_
                refine G_aload_n (i := 0) C 106 dX10_kinds_105 rfl rfl rfl ?_
                refine G_aload_n (i := 0) C 107 dX10_kinds_106 rfl rfl rfl ?_
                refine X10_17g C 110 dX10_kinds_107 rfl ?_
                refine G_iload_n (i := 1) C 111 dX10_kinds_110 rfl rfl rfl ?_
                refine G_aald (r := (30 + 2 * ut)) C 112 (by decide) (eC2 _ _ _) (fun _ => rfl) (ut) eut (by omega) (by decide) rfl dX10_kinds_111 rfl ?_
                refine G_calli 115 (G_runV C Kc_X10_otherwise KV_X10_215 (by omega) (by decide) (eC _ _ _) rfl (c_X10_otherwise 0 TX nT n l (g_up P 7 up (nI k)) s102 i_2 ut (by omega) z hz20 (B (4 + ut)) ((cB_sz (Rc_q hR fq_2).2.1 hut).trans ez) (fun j hj => cB_nu (Rc_q hR fq_2).2.1 hut hj)) rfl rfl rfl (Nat.le_of_ble_eq_true rfl) rfl dX10_kinds_112) rfl (fun x112 s112 h112 => ?_)
                have fm_3 : cI TX nT n l 45 P s112 := cI_q fm_2 (h112.1.Q)
                have fq_3 : Fr mQ s s112 := Fr.tr fq_2 (h112.1.Q)
                have hun : x112 = x_un TX B ut (g_up P 7 up (nI k)) := by unfold x_un; rw [ez, nI_clamp (by omega)]; exact h112.2
                refine G_iconst (v := (-1)) C 116 dX10_kinds_115 rfl rfl ?_
                refine G_icmp_ne C 126 119 dX10_kinds_116 rfl rfl (fun c116 => ?_) (fun c116 => ?_)
                ·
                  refine G_iconst (v := 0) C 127 dX10_kinds_126 rfl rfl ?_
                  refine G_ior C 128 dX10_kinds_127 rfl (fun x127 ex127 => ?_)
                  refine G_istore (L' := [some (.ref (e_ad E 0)), some (.int t), some (.int p), some (.int 1), some (.int x2), some (.ref (e_ad E (54 + 7))), some (.int x127), some (.int y)]) C 130 dX10_kinds_128 rfl (Nat.le_of_ble_eq_true rfl) rfl rfl ?_
                  refine G_iinc (w := 1) C 133 dX10_kinds_130 rfl rfl rfl rfl (fun x130 ex130 => ?_)
                  have Nx130 : x130 = nI (k + 1) := g_addN ex130 Ey rfl
                  show GW SC E _ 133 [some (.ref (e_ad E 0)), some (.int t), some (.int p), some (.int 1), some (.int x2), some (.ref (e_ad E (54 + 7))), some (.int x127), some (.int x130)] [] s112
                  refine G_goto C 70 dX10_kinds_133 rfl ?_
                  exact ih70 (k + 1) x127 x130 s112 (g_cn (a := (k + 1)) Nx130 (by first | rfl | omega | (simp only [List.length_cons, List.length_drop]; done) | (simp only [List.length_cons, List.length_drop]; omega))) (by omega) (by rw [x_fit, if_neg (by rw [← hun]; exact c116), ex127, y_or0, hfi]) fm_3 fq_3 (by omega)
                ·
                  refine G_iconst (v := 1) C 120 dX10_kinds_119 rfl rfl ?_
                  refine G_iload C 122 dX10_kinds_120 rfl rfl ?_
                  refine G_ishl C 123 dX10_kinds_122 rfl (fun x122 ex122 => ?_)
                  refine G_goto C 127 dX10_kinds_123 rfl ?_
                  refine G_ior C 128 dX10_kinds_127 rfl (fun x127 ex127 => ?_)
                  refine G_istore (L' := [some (.ref (e_ad E 0)), some (.int t), some (.int p), some (.int 1), some (.int x2), some (.ref (e_ad E (54 + 7))), some (.int x127), some (.int y)]) C 130 dX10_kinds_128 rfl (Nat.le_of_ble_eq_true rfl) rfl rfl ?_
                  refine G_iinc (w := 1) C 133 dX10_kinds_130 rfl rfl rfl rfl (fun x130 ex130 => ?_)
                  have Nx130 : x130 = nI (k + 1) := g_addN ex130 Ey rfl
                  show GW SC E _ 133 [some (.ref (e_ad E 0)), some (.int t), some (.int p), some (.int 1), some (.int x2), some (.ref (e_ad E (54 + 7))), some (.int x127), some (.int x130)] [] s112
                  refine G_goto C 70 dX10_kinds_133 rfl ?_
                  exact ih70 (k + 1) x127 x130 s112 (g_cn (a := (k + 1)) Nx130 (by first | rfl | omega | (simp only [List.length_cons, List.length_drop]; done) | (simp only [List.length_cons, List.length_drop]; omega))) (by omega) (by rw [x_fit, if_pos (hun.symm.trans c116), ex127, ex122, Ey, hfi]) fm_3 fq_3 (by omega)
          exact L70 (10 + 1) 0 0 0 s (g_cn (a := 0) rfl (by first | rfl | omega)) (by omega) (rfl) fm fq (by omega)
      ·
        have k35 := h32.symm.trans c35
        refine G_bipush (v := (-7)) C 40 dX10_kinds_38 rfl rfl ?_
        exact G_iret C dX10_kinds_40 (⟨RC_q hR fq, by unfold s_kinds; rw [if_pos k9, hxn, if_neg k23, if_pos k35]⟩)
    ·
      have k23 := h20.symm.trans c23
      refine G_bipush (v := (-5)) C 28 dX10_kinds_26 rfl rfl ?_
      exact G_iret C dX10_kinds_28 (⟨RC_q hR fq, by unfold s_kinds; rw [if_pos k9, hxn, if_pos k23]⟩)
  ·
    have k9 := g_neT h2 c9
    refine G_iload C 14 dX10_kinds_12 rfl rfl ?_
    exact G_iret C dX10_kinds_14 (⟨RC_q hR fq, by unfold s_kinds; rw [if_neg k9]; exact h2⟩)
