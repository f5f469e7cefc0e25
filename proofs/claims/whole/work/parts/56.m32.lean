def c_N (a b : gS) : Prop := (∀ k, k ≠ 3 → b k = a k) ∧ ∀ j, ¬ (2 ≤ j ∧ j < 6) → b 3 j = a 3 j
theorem c_N.rf {a : gS} : c_N a a := ⟨fun _ _ => rfl, fun _ _ => rfl⟩
theorem c_N.up {a b c : gS} {j : Nat} {v : Int32} (h : c_N a b) (e : c = g_up b 3 j v) (hj : 2 ≤ j ∧ j < 6) : c_N a c := ⟨fun k hk => by rw [e, g_up_n hk]; exact h.1 k hk, fun i hi => by rw [e, g_up_sj, if_neg (fun z => hi (by rw [z]; exact hj))]; exact h.2 i hi⟩
theorem c_N.tr {a b c : gS} (h : c_N a b) (g : c_N b c) : c_N a c := ⟨fun k hk => (g.1 k hk).trans (h.1 k hk), fun j hj => (g.2 j hj).trans (h.2 j hj)⟩
theorem t_valT {f : Nat → Int32} {i n : Nat} {a b c x y : Int32} (hx : x = nI (t_val f i n)) (hb : ¬ x_in (f (i + n)) 48 57 = 0) (hy : y = f (i + n)) (ea : a = x * 10) (eb : b = a + y) (ec : c = b - 48) : c = nI (t_val f i (n + 1)) := t_valS hx hb hy (ea.trans (Int32.mul_comm x 10)) eb ec
theorem dX6_isLetter_0 : decode cX6_isLetter 0 = .ok (.iload_n 1, 1) := by decide +kernel
theorem dX6_isLetter_1 : decode cX6_isLetter 1 = .ok (.ifCond .lt 31, 3) := by decide +kernel
theorem dX6_isLetter_4 : decode cX6_isLetter 4 = .ok (.iload_n 1, 1) := by decide +kernel
theorem dX6_isLetter_5 : decode cX6_isLetter 5 = .ok (.aload_n 0, 1) := by decide +kernel
theorem dX6_isLetter_6 : decode cX6_isLetter 6 = .ok (.getfield 15, 3) := by decide +kernel
theorem dX6_isLetter_9 : decode cX6_isLetter 9 = .ok (.if_icmp .ge 23, 3) := by decide +kernel
theorem dX6_isLetter_12 : decode cX6_isLetter 12 = .ok (.aload_n 0, 1) := by decide +kernel
theorem dX6_isLetter_13 : decode cX6_isLetter 13 = .ok (.getfield 9, 3) := by decide +kernel
theorem dX6_isLetter_16 : decode cX6_isLetter 16 = .ok (.iload_n 1, 1) := by decide +kernel
theorem dX6_isLetter_17 : decode cX6_isLetter 17 = .ok (.iaload, 1) := by decide +kernel
theorem dX6_isLetter_18 : decode cX6_isLetter 18 = .ok (.bipush 97, 2) := by decide +kernel
theorem dX6_isLetter_20 : decode cX6_isLetter 20 = .ok (.bipush 122, 2) := by decide +kernel
theorem dX6_isLetter_22 : decode cX6_isLetter 22 = .ok (.invokestatic 64, 3) := by decide +kernel
theorem dX6_isLetter_25 : decode cX6_isLetter 25 = .ok (.ifCond .eq 7, 3) := by decide +kernel
theorem dX6_isLetter_28 : decode cX6_isLetter 28 = .ok (.iconst 1, 1) := by decide +kernel
theorem dX6_isLetter_29 : decode cX6_isLetter 29 = .ok (.goto 4, 3) := by decide +kernel
theorem dX6_isLetter_32 : decode cX6_isLetter 32 = .ok (.iconst 0, 1) := by decide +kernel
theorem dX6_isLetter_33 : decode cX6_isLetter 33 = .ok (.ireturn, 1) := by decide +kernel
set_option maxHeartbeats 4000000 in
set_option maxRecDepth 100000 in
theorem c_X6_isLetter (d : Nat) (s : gS) (i e : Nat) (v : Int32) (hv : v = nI i) (he : s 3 1 = nI e) (hi : i < e) (he160 : e ≤ 160) : gMt SC yX6_isLetter cX6_isLetter 2 (some .boolean) (d + 2) (fun ad => [.ref (ad 3), .int v]) s (gQi SC (fun r s' => s' = s ∧ r = x_in (s 4 i) 97 122)) := by
  refine gMt_of SC_ok (by decide +kernel) (fun ad => [some (.ref (ad 3)), some (.int v)]) (fun _ => rfl) (fun _ => rfl) (fun _ => Nat.le_of_ble_eq_true rfl) (fun E C0 => ?_)
  have C : gCx SC E RX6 cX6_isLetter 2 (some .boolean) (d + 2) := C0
  refine G_iload_n (i := 1) C 1 dX6_isLetter_0 rfl rfl rfl ?_
  refine G_if_lt C 32 4 dX6_isLetter_1 rfl rfl (fun c1 => ?_) (fun c1 => ?_)
  ·
    have n1 : i < 0 := (g_ltN (a := i) (b := 0) (hx := hv) (hy := rfl) (by omega) (by omega)).mp c1
    exfalso; omega
  ·
    have n1 : ¬ i < 0 := fun hq_ => c1 ((g_ltN (a := i) (b := 0) (hx := hv) (hy := rfl) (by omega) (by omega)).mpr hq_)
    refine G_iload_n (i := 1) C 5 dX6_isLetter_4 rfl rfl rfl ?_
    refine G_aload_n (i := 0) C 6 dX6_isLetter_5 rfl rfl rfl ?_
    refine X6_15g C 9 dX6_isLetter_6 rfl (fun x6 ex6 => ?_)
    have Sx6 : x6 = nI e := ex6.trans (he)
    refine G_icmp_ge C 32 12 dX6_isLetter_9 rfl rfl (fun c9 => ?_) (fun c9 => ?_)
    ·
      have n9 : ¬ i < e := fun hq_ => c9 ((g_ltN (a := i) (b := e) (hx := hv) (hy := Sx6) (by omega) (by omega)).mpr hq_)
      exfalso; omega
    ·
      have n9 : i < e := (g_ltN (a := i) (b := e) (hx := hv) (hy := Sx6) (by omega) (by omega)).mp c9
      refine G_aload_n (i := 0) C 13 dX6_isLetter_12 rfl rfl rfl ?_
      refine X6_9g C 16 dX6_isLetter_13 rfl ?_
      refine G_iload_n (i := 1) C 17 dX6_isLetter_16 rfl rfl rfl ?_
      refine G_iald (n := 160) C 18 (by decide) (eTb _ _ _) (i) hv (by omega) (by decide) dX6_isLetter_17 rfl (fun x17 ex17 => ?_)
      refine G_bipush (v := 97) C 20 dX6_isLetter_18 rfl rfl ?_
      refine G_bipush (v := 122) C 22 dX6_isLetter_20 rfl rfl ?_
      refine G_calli 25 (G_runN C Kc_X10_within KN_X6_64 (by omega) (c_X10_within 0 x17 97 122 s) rfl rfl (Nat.le_of_ble_eq_true rfl) rfl dX6_isLetter_22) rfl (fun x22 s22 h22 => ?_)
      obtain ⟨es22, h22⟩ := h22
      have es22 := es22.symm
      subst es22
      refine G_if_eq C 32 28 dX6_isLetter_25 rfl rfl (fun c25 => ?_) (fun c25 => ?_)
      ·
        have k25 := h22.symm.trans c25
        refine G_iconst (v := 0) C 33 dX6_isLetter_32 rfl rfl ?_
        exact G_zret C rfl dX6_isLetter_33 (⟨rfl, by rw [← ex17]; exact k25.symm⟩)
      ·
        have k25 := g_neT h22 c25
        refine G_iconst (v := 1) C 29 dX6_isLetter_28 rfl rfl ?_
        refine G_goto C 33 dX6_isLetter_29 rfl ?_
        exact G_zret C rfl dX6_isLetter_33 (⟨rfl, by rw [← ex17]; exact ((x_in01 _ _ _).resolve_left k25).symm⟩)
theorem dX6_isDigit_0 : decode cX6_isDigit 0 = .ok (.iload_n 1, 1) := by decide +kernel
theorem dX6_isDigit_1 : decode cX6_isDigit 1 = .ok (.ifCond .lt 31, 3) := by decide +kernel
theorem dX6_isDigit_4 : decode cX6_isDigit 4 = .ok (.iload_n 1, 1) := by decide +kernel
theorem dX6_isDigit_5 : decode cX6_isDigit 5 = .ok (.aload_n 0, 1) := by decide +kernel
theorem dX6_isDigit_6 : decode cX6_isDigit 6 = .ok (.getfield 15, 3) := by decide +kernel
theorem dX6_isDigit_9 : decode cX6_isDigit 9 = .ok (.if_icmp .ge 23, 3) := by decide +kernel
theorem dX6_isDigit_12 : decode cX6_isDigit 12 = .ok (.aload_n 0, 1) := by decide +kernel
theorem dX6_isDigit_13 : decode cX6_isDigit 13 = .ok (.getfield 9, 3) := by decide +kernel
theorem dX6_isDigit_16 : decode cX6_isDigit 16 = .ok (.iload_n 1, 1) := by decide +kernel
theorem dX6_isDigit_17 : decode cX6_isDigit 17 = .ok (.iaload, 1) := by decide +kernel
theorem dX6_isDigit_18 : decode cX6_isDigit 18 = .ok (.bipush 48, 2) := by decide +kernel
theorem dX6_isDigit_20 : decode cX6_isDigit 20 = .ok (.bipush 57, 2) := by decide +kernel
theorem dX6_isDigit_22 : decode cX6_isDigit 22 = .ok (.invokestatic 64, 3) := by decide +kernel
theorem dX6_isDigit_25 : decode cX6_isDigit 25 = .ok (.ifCond .eq 7, 3) := by decide +kernel
theorem dX6_isDigit_28 : decode cX6_isDigit 28 = .ok (.iconst 1, 1) := by decide +kernel
theorem dX6_isDigit_29 : decode cX6_isDigit 29 = .ok (.goto 4, 3) := by decide +kernel
theorem dX6_isDigit_32 : decode cX6_isDigit 32 = .ok (.iconst 0, 1) := by decide +kernel
theorem dX6_isDigit_33 : decode cX6_isDigit 33 = .ok (.ireturn, 1) := by decide +kernel
set_option maxHeartbeats 4000000 in
set_option maxRecDepth 100000 in
theorem c_X6_isDigit (d : Nat) (s : gS) (i e : Nat) (v : Int32) (hv : v = nI i) (he : s 3 1 = nI e) (hi : i < e) (he160 : e ≤ 160) : gMt SC yX6_isDigit cX6_isDigit 2 (some .boolean) (d + 2) (fun ad => [.ref (ad 3), .int v]) s (gQi SC (fun r s' => s' = s ∧ r = x_in (s 4 i) 48 57)) := by
  refine gMt_of SC_ok (by decide +kernel) (fun ad => [some (.ref (ad 3)), some (.int v)]) (fun _ => rfl) (fun _ => rfl) (fun _ => Nat.le_of_ble_eq_true rfl) (fun E C0 => ?_)
  have C : gCx SC E RX6 cX6_isDigit 2 (some .boolean) (d + 2) := C0
  refine G_iload_n (i := 1) C 1 dX6_isDigit_0 rfl rfl rfl ?_
  refine G_if_lt C 32 4 dX6_isDigit_1 rfl rfl (fun c1 => ?_) (fun c1 => ?_)
  ·
    have n1 : i < 0 := (g_ltN (a := i) (b := 0) (hx := hv) (hy := rfl) (by omega) (by omega)).mp c1
    exfalso; omega
  ·
    have n1 : ¬ i < 0 := fun hq_ => c1 ((g_ltN (a := i) (b := 0) (hx := hv) (hy := rfl) (by omega) (by omega)).mpr hq_)
    refine G_iload_n (i := 1) C 5 dX6_isDigit_4 rfl rfl rfl ?_
    refine G_aload_n (i := 0) C 6 dX6_isDigit_5 rfl rfl rfl ?_
    refine X6_15g C 9 dX6_isDigit_6 rfl (fun x6 ex6 => ?_)
    have Sx6 : x6 = nI e := ex6.trans (he)
    refine G_icmp_ge C 32 12 dX6_isDigit_9 rfl rfl (fun c9 => ?_) (fun c9 => ?_)
    ·
      have n9 : ¬ i < e := fun hq_ => c9 ((g_ltN (a := i) (b := e) (hx := hv) (hy := Sx6) (by omega) (by omega)).mpr hq_)
      exfalso; omega
    ·
      have n9 : i < e := (g_ltN (a := i) (b := e) (hx := hv) (hy := Sx6) (by omega) (by omega)).mp c9
      refine G_aload_n (i := 0) C 13 dX6_isDigit_12 rfl rfl rfl ?_
      refine X6_9g C 16 dX6_isDigit_13 rfl ?_
      refine G_iload_n (i := 1) C 17 dX6_isDigit_16 rfl rfl rfl ?_
      refine G_iald (n := 160) C 18 (by decide) (eTb _ _ _) (i) hv (by omega) (by decide) dX6_isDigit_17 rfl (fun x17 ex17 => ?_)
      refine G_bipush (v := 48) C 20 dX6_isDigit_18 rfl rfl ?_
      refine G_bipush (v := 57) C 22 dX6_isDigit_20 rfl rfl ?_
      refine G_calli 25 (G_runN C Kc_X10_within KN_X6_64 (by omega) (c_X10_within 0 x17 48 57 s) rfl rfl (Nat.le_of_ble_eq_true rfl) rfl dX6_isDigit_22) rfl (fun x22 s22 h22 => ?_)
      obtain ⟨es22, h22⟩ := h22
      have es22 := es22.symm
      subst es22
      refine G_if_eq C 32 28 dX6_isDigit_25 rfl rfl (fun c25 => ?_) (fun c25 => ?_)
      ·
        have k25 := h22.symm.trans c25
        refine G_iconst (v := 0) C 33 dX6_isDigit_32 rfl rfl ?_
        exact G_zret C rfl dX6_isDigit_33 (⟨rfl, by rw [← ex17]; exact k25.symm⟩)
      ·
        have k25 := g_neT h22 c25
        refine G_iconst (v := 1) C 29 dX6_isDigit_28 rfl rfl ?_
        refine G_goto C 33 dX6_isDigit_29 rfl ?_
        exact G_zret C rfl dX6_isDigit_33 (⟨rfl, by rw [← ex17]; exact ((x_in01 _ _ _).resolve_left k25).symm⟩)
theorem dX6_wordEnd_0 : decode cX6_wordEnd 0 = .ok (.iload_n 1, 1) := by decide +kernel
theorem dX6_wordEnd_1 : decode cX6_wordEnd 1 = .ok (.istore_n 2, 1) := by decide +kernel
theorem dX6_wordEnd_2 : decode cX6_wordEnd 2 = .ok (.iload_n 2, 1) := by decide +kernel
theorem dX6_wordEnd_3 : decode cX6_wordEnd 3 = .ok (.aload_n 0, 1) := by decide +kernel
theorem dX6_wordEnd_4 : decode cX6_wordEnd 4 = .ok (.getfield 15, 3) := by decide +kernel
theorem dX6_wordEnd_7 : decode cX6_wordEnd 7 = .ok (.if_icmp .ge 17, 3) := by decide +kernel
theorem dX6_wordEnd_10 : decode cX6_wordEnd 10 = .ok (.aload_n 0, 1) := by decide +kernel
theorem dX6_wordEnd_11 : decode cX6_wordEnd 11 = .ok (.iload_n 2, 1) := by decide +kernel
theorem dX6_wordEnd_12 : decode cX6_wordEnd 12 = .ok (.invokevirtual 71, 3) := by decide +kernel
theorem dX6_wordEnd_15 : decode cX6_wordEnd 15 = .ok (.ifCond .eq 9, 3) := by decide +kernel
theorem dX6_wordEnd_18 : decode cX6_wordEnd 18 = .ok (.iinc 2 1, 3) := by decide +kernel
theorem dX6_wordEnd_21 : decode cX6_wordEnd 21 = .ok (.goto (-19), 3) := by decide +kernel
theorem dX6_wordEnd_24 : decode cX6_wordEnd 24 = .ok (.iload_n 2, 1) := by decide +kernel
theorem dX6_wordEnd_25 : decode cX6_wordEnd 25 = .ok (.ireturn, 1) := by decide +kernel
set_option maxHeartbeats 4000000 in
set_option maxRecDepth 100000 in
theorem c_X6_wordEnd (d : Nat) (s : gS) (i e : Nat) (v : Int32) (hv : v = nI i) (he : s 3 1 = nI e) (hi : i ≤ e) (he160 : e ≤ 160) : gMt SC yX6_wordEnd cX6_wordEnd 3 (some .int) (d + 3) (fun ad => [.ref (ad 3), .int v]) s (gQi SC (fun r s' => s' = s ∧ r = nI (t_end (s 4) e 97 122 i))) := by
  refine gMt_of SC_ok (by decide +kernel) (fun ad => [some (.ref (ad 3)), some (.int v), none]) (fun _ => rfl) (fun _ => rfl) (fun _ => Nat.le_of_ble_eq_true rfl) (fun E C0 => ?_)
  have C : gCx SC E RX6 cX6_wordEnd 3 (some .int) (d + 3) := C0
  refine G_iload_n (i := 1) C 1 dX6_wordEnd_0 rfl rfl rfl ?_
  refine G_istore_n (i := 2) (L' := [some (.ref (e_ad E 3)), some (.int v), some (.int v)]) C 2 dX6_wordEnd_1 rfl rfl (Nat.le_of_ble_eq_true rfl) rfl rfl ?_
  have L2 : ∀ (f2 : Nat) (k : Nat) (w : Int32) (Ew : w = nI k) (hk1 : i ≤ k) (hk2 : k ≤ e) (hte : t_end (s 4) e 97 122 k = t_end (s 4) e 97 122 i), e < k + f2 → GW SC E (gFin SC E (gQi SC (fun r s' => s' = s ∧ r = nI (t_end (s 4) e 97 122 i)))) 2 [some (.ref (e_ad E 3)), some (.int v), some (.int w)] [] s := by
    intro f2
    induction f2 with
    | zero =>
      intro k w Ew hk1 hk2 hte hf2
      exact absurd hf2 (by omega)
    | succ f2 ih2 =>
      intro k w Ew hk1 hk2 hte hf2
      refine G_iload_n (i := 2) C 3 dX6_wordEnd_2 rfl rfl rfl ?_
      refine G_aload_n (i := 0) C 4 dX6_wordEnd_3 rfl rfl rfl ?_
      refine X6_15g C 7 dX6_wordEnd_4 rfl (fun x4 ex4 => ?_)
      have Sx4 : x4 = nI e := ex4.trans (he)
      refine G_icmp_ge C 24 10 dX6_wordEnd_7 rfl rfl (fun c7 => ?_) (fun c7 => ?_)
      ·
        have n7 : ¬ k < e := fun hq_ => c7 ((g_ltN (a := k) (b := e) (hx := Ew) (hy := Sx4) (by omega) (by omega)).mpr hq_)
        refine G_iload_n (i := 2) C 25 dX6_wordEnd_24 rfl rfl rfl ?_
        exact G_iret C dX6_wordEnd_25 (⟨rfl, Ew.trans (by rw [← hte, t_end_e (by omega)])⟩)
      ·
        have n7 : k < e := (g_ltN (a := k) (b := e) (hx := Ew) (hy := Sx4) (by omega) (by omega)).mp c7
        refine G_aload_n (i := 0) C 11 dX6_wordEnd_10 rfl rfl rfl ?_
        refine G_iload_n (i := 2) C 12 dX6_wordEnd_11 rfl rfl rfl ?_
        refine G_calli 15 (G_runV C Kc_X6_isLetter KV_X6_71 (by omega) (by decide) (eTp _ _ _) rfl (c_X6_isLetter 0 s k e w Ew he (by omega) he160) rfl rfl rfl (Nat.le_of_ble_eq_true rfl) rfl dX6_wordEnd_12) rfl (fun x12 s12 h12 => ?_)
        obtain ⟨es12, h12⟩ := h12
        have es12 := es12.symm
        subst es12
        refine G_if_eq C 24 18 dX6_wordEnd_15 rfl rfl (fun c15 => ?_) (fun c15 => ?_)
        ·
          have k15 := h12.symm.trans c15
          refine G_iload_n (i := 2) C 25 dX6_wordEnd_24 rfl rfl rfl ?_
          exact G_iret C dX6_wordEnd_25 (⟨rfl, Ew.trans (by rw [← hte, t_end_n (by omega) k15])⟩)
        ·
          have k15 := g_neT h12 c15
          refine G_iinc (w := 1) C 21 dX6_wordEnd_18 rfl rfl rfl rfl (fun x18 ex18 => ?_)
          have Nx18 : x18 = nI (k + 1) := g_addN ex18 Ew rfl
          show GW SC E _ 21 [some (.ref (e_ad E 3)), some (.int v), some (.int x18)] [] s
          refine G_goto C 2 dX6_wordEnd_21 rfl ?_
          exact ih2 (k + 1) x18  (g_cn (a := (k + 1)) Nx18 (by first | rfl | omega | (simp only [List.length_cons, List.length_drop]; done) | (simp only [List.length_cons, List.length_drop]; omega))) (by omega) (by omega) ((t_end_s (by omega) k15).symm.trans hte) (by omega)
  exact L2 (e + 1) i v  (g_cn (a := i) hv (by first | rfl | omega)) (by omega) (by omega) (rfl) (by omega)
theorem dX6_takeNumber_0 : decode cX6_takeNumber 0 = .ok (.iload_n 1, 1) := by decide +kernel
theorem dX6_takeNumber_1 : decode cX6_takeNumber 1 = .ok (.istore_n 2, 1) := by decide +kernel
theorem dX6_takeNumber_2 : decode cX6_takeNumber 2 = .ok (.aload_n 0, 1) := by decide +kernel
theorem dX6_takeNumber_3 : decode cX6_takeNumber 3 = .ok (.iconst 0, 1) := by decide +kernel
theorem dX6_takeNumber_4 : decode cX6_takeNumber 4 = .ok (.putfield 68, 3) := by decide +kernel
theorem dX6_takeNumber_7 : decode cX6_takeNumber 7 = .ok (.iload_n 2, 1) := by decide +kernel
theorem dX6_takeNumber_8 : decode cX6_takeNumber 8 = .ok (.aload_n 0, 1) := by decide +kernel
theorem dX6_takeNumber_9 : decode cX6_takeNumber 9 = .ok (.getfield 15, 3) := by decide +kernel
theorem dX6_takeNumber_12 : decode cX6_takeNumber 12 = .ok (.if_icmp .ge 38, 3) := by decide +kernel
theorem dX6_takeNumber_15 : decode cX6_takeNumber 15 = .ok (.aload_n 0, 1) := by decide +kernel
theorem dX6_takeNumber_16 : decode cX6_takeNumber 16 = .ok (.iload_n 2, 1) := by decide +kernel
theorem dX6_takeNumber_17 : decode cX6_takeNumber 17 = .ok (.invokevirtual 82, 3) := by decide +kernel
theorem dX6_takeNumber_20 : decode cX6_takeNumber 20 = .ok (.ifCond .eq 30, 3) := by decide +kernel
theorem dX6_takeNumber_23 : decode cX6_takeNumber 23 = .ok (.aload_n 0, 1) := by decide +kernel
theorem dX6_takeNumber_24 : decode cX6_takeNumber 24 = .ok (.aload_n 0, 1) := by decide +kernel
theorem dX6_takeNumber_25 : decode cX6_takeNumber 25 = .ok (.getfield 68, 3) := by decide +kernel
theorem dX6_takeNumber_28 : decode cX6_takeNumber 28 = .ok (.bipush 10, 2) := by decide +kernel
theorem dX6_takeNumber_30 : decode cX6_takeNumber 30 = .ok (.imul, 1) := by decide +kernel
theorem dX6_takeNumber_31 : decode cX6_takeNumber 31 = .ok (.aload_n 0, 1) := by decide +kernel
theorem dX6_takeNumber_32 : decode cX6_takeNumber 32 = .ok (.getfield 9, 3) := by decide +kernel
theorem dX6_takeNumber_35 : decode cX6_takeNumber 35 = .ok (.iload_n 2, 1) := by decide +kernel
theorem dX6_takeNumber_36 : decode cX6_takeNumber 36 = .ok (.iaload, 1) := by decide +kernel
theorem dX6_takeNumber_37 : decode cX6_takeNumber 37 = .ok (.iadd, 1) := by decide +kernel
theorem dX6_takeNumber_38 : decode cX6_takeNumber 38 = .ok (.bipush 48, 2) := by decide +kernel
theorem dX6_takeNumber_40 : decode cX6_takeNumber 40 = .ok (.isub, 1) := by decide +kernel
theorem dX6_takeNumber_41 : decode cX6_takeNumber 41 = .ok (.putfield 68, 3) := by decide +kernel
theorem dX6_takeNumber_44 : decode cX6_takeNumber 44 = .ok (.iinc 2 1, 3) := by decide +kernel
theorem dX6_takeNumber_47 : decode cX6_takeNumber 47 = .ok (.goto (-40), 3) := by decide +kernel
theorem dX6_takeNumber_50 : decode cX6_takeNumber 50 = .ok (.aload_n 0, 1) := by decide +kernel
theorem dX6_takeNumber_51 : decode cX6_takeNumber 51 = .ok (.iload_n 2, 1) := by decide +kernel
theorem dX6_takeNumber_52 : decode cX6_takeNumber 52 = .ok (.putfield 26, 3) := by decide +kernel
theorem dX6_takeNumber_55 : decode cX6_takeNumber 55 = .ok (.aload_n 0, 1) := by decide +kernel
theorem dX6_takeNumber_56 : decode cX6_takeNumber 56 = .ok (.iload_n 2, 1) := by decide +kernel
theorem dX6_takeNumber_57 : decode cX6_takeNumber 57 = .ok (.iload_n 1, 1) := by decide +kernel
theorem dX6_takeNumber_58 : decode cX6_takeNumber 58 = .ok (.isub, 1) := by decide +kernel
theorem dX6_takeNumber_59 : decode cX6_takeNumber 59 = .ok (.iconst 4, 1) := by decide +kernel
theorem dX6_takeNumber_60 : decode cX6_takeNumber 60 = .ok (.if_icmp .le 7, 3) := by decide +kernel
theorem dX6_takeNumber_63 : decode cX6_takeNumber 63 = .ok (.iconst 2, 1) := by decide +kernel
theorem dX6_takeNumber_64 : decode cX6_takeNumber 64 = .ok (.goto 4, 3) := by decide +kernel
theorem dX6_takeNumber_67 : decode cX6_takeNumber 67 = .ok (.iconst 1, 1) := by decide +kernel
theorem dX6_takeNumber_68 : decode cX6_takeNumber 68 = .ok (.putfield 32, 3) := by decide +kernel
theorem dX6_takeNumber_71 : decode cX6_takeNumber 71 = .ok (.return_, 1) := by decide +kernel
set_option maxHeartbeats 4000000 in
set_option maxRecDepth 100000 in
theorem c_X6_takeNumber (d : Nat) (s : gS) (i e : Nat) (v : Int32) (hv : v = nI i) (he : s 3 1 = nI e) (hi : i ≤ e) (he160 : e ≤ 160) : gMt SC yX6_takeNumber cX6_takeNumber 3 none (d + 3) (fun ad => [.ref (ad 3), .int v]) s (gQv SC (fun s' => c_N s s' ∧ s' 3 4 = nI (t_end (s 4) e 48 57 i) ∧ s' 3 3 = s 3 3 ∧ s' 3 2 = (if 4 < t_end (s 4) e 48 57 i - i then 2 else 1) ∧ (t_end (s 4) e 48 57 i - i ≤ 4 → s' 3 5 = nI (t_val (s 4) i (t_end (s 4) e 48 57 i - i))))) := by
  refine gMt_of SC_ok (by decide +kernel) (fun ad => [some (.ref (ad 3)), some (.int v), none]) (fun _ => rfl) (fun _ => rfl) (fun _ => Nat.le_of_ble_eq_true rfl) (fun E C0 => ?_)
  have C : gCx SC E RX6 cX6_takeNumber 3 none (d + 3) := C0
  have f : c_N s s := c_N.rf
  have f2 : s 3 2 = s 3 2 := rfl
  have f3 : s 3 3 = s 3 3 := rfl
  have f4 : s 3 4 = s 3 4 := rfl
  have f5 : s 3 5 = s 3 5 := rfl
  refine G_iload_n (i := 1) C 1 dX6_takeNumber_0 rfl rfl rfl ?_
  refine G_istore_n (i := 2) (L' := [some (.ref (e_ad E 3)), some (.int v), some (.int v)]) C 2 dX6_takeNumber_1 rfl rfl (Nat.le_of_ble_eq_true rfl) rfl rfl ?_
  refine G_aload_n (i := 0) C 3 dX6_takeNumber_2 rfl rfl rfl ?_
  refine G_iconst (v := 0) C 4 dX6_takeNumber_3 rfl rfl ?_
  refine X6_68p C 7 dX6_takeNumber_4 rfl (fun s4 es4 => ?_)
  have f_1 : c_N s s4 := c_N.up f es4 (by decide)
  have f2_1 : s4 3 2 = s 3 2 := by rw [es4, g_up_sj]; exact (if_neg (by decide)).trans f2
  have f3_1 : s4 3 3 = s 3 3 := by rw [es4, g_up_sj]; exact (if_neg (by decide)).trans f3
  have f4_1 : s4 3 4 = s 3 4 := by rw [es4, g_up_sj]; exact (if_neg (by decide)).trans f4
  have f5_1 : s4 3 5 = nI 0 := by rw [es4, g_up_sj]; exact (if_pos rfl).trans rfl
  have L7 : ∀ (f7 : Nat) (k : Nat) (w : Int32) (sl7 : gS) (Ew : w = nI k) (hk1 : i ≤ k) (hk2 : k ≤ e) (hte : t_end (s 4) e 48 57 k = t_end (s 4) e 48 57 i) (hvl : k - i ≤ 4 → sl7 3 5 = nI (t_val (s 4) i (k - i))) (fl7 : c_N s sl7) (f2l7 : sl7 3 2 = s 3 2) (f3l7 : sl7 3 3 = s 3 3) (f4l7 : sl7 3 4 = s 3 4), e < k + f7 → GW SC E (gFin SC E (gQv SC (fun s' => c_N s s' ∧ s' 3 4 = nI (t_end (s 4) e 48 57 i) ∧ s' 3 3 = s 3 3 ∧ s' 3 2 = (if 4 < t_end (s 4) e 48 57 i - i then 2 else 1) ∧ (t_end (s 4) e 48 57 i - i ≤ 4 → s' 3 5 = nI (t_val (s 4) i (t_end (s 4) e 48 57 i - i)))))) 7 [some (.ref (e_ad E 3)), some (.int v), some (.int w)] [] sl7 := by
    intro f7
    induction f7 with
    | zero =>
      intro k w sl7 Ew hk1 hk2 hte hvl fl7 f2l7 f3l7 f4l7 hf7
      exact absurd hf7 (by omega)
    | succ f7 ih7 =>
      intro k w sl7 Ew hk1 hk2 hte hvl fl7 f2l7 f3l7 f4l7 hf7
      refine G_iload_n (i := 2) C 8 dX6_takeNumber_7 rfl rfl rfl ?_
      refine G_aload_n (i := 0) C 9 dX6_takeNumber_8 rfl rfl rfl ?_
      refine X6_15g C 12 dX6_takeNumber_9 rfl (fun x9 ex9 => ?_)
      have Sx9 : x9 = nI e := ex9.trans ((fl7.2 1 (by decide)).trans he)
      refine G_icmp_ge C 50 15 dX6_takeNumber_12 rfl rfl (fun c12 => ?_) (fun c12 => ?_)
      ·
        have n12 : ¬ k < e := fun hq_ => c12 ((g_ltN (a := k) (b := e) (hx := Ew) (hy := Sx9) (by omega) (by omega)).mpr hq_)
        have hm : t_end (s 4) e 48 57 i = k := hte.symm.trans (t_end_e (by omega))
        refine G_aload_n (i := 0) C 51 dX6_takeNumber_50 rfl rfl rfl ?_
        refine G_iload_n (i := 2) C 52 dX6_takeNumber_51 rfl rfl rfl ?_
        refine X6_26p C 55 dX6_takeNumber_52 rfl (fun s52 es52 => ?_)
        have f_2 : c_N s s52 := c_N.up fl7 es52 (by decide)
        have f2_2 : s52 3 2 = s 3 2 := by rw [es52, g_up_sj]; exact (if_neg (by decide)).trans f2l7
        have f3_2 : s52 3 3 = s 3 3 := by rw [es52, g_up_sj]; exact (if_neg (by decide)).trans f3l7
        have f4_2 : s52 3 4 = nI k := by rw [es52, g_up_sj]; exact (if_pos rfl).trans Ew
        refine G_aload_n (i := 0) C 56 dX6_takeNumber_55 rfl rfl rfl ?_
        refine G_iload_n (i := 2) C 57 dX6_takeNumber_56 rfl rfl rfl ?_
        refine G_iload_n (i := 1) C 58 dX6_takeNumber_57 rfl rfl rfl ?_
        refine G_isub C 59 dX6_takeNumber_58 rfl (fun x58 ex58 => ?_)
        have Nx58 : x58 = nI (k - i) := g_subN ex58 Ew hv (by omega)
        refine G_iconst (v := 4) C 60 dX6_takeNumber_59 rfl rfl ?_
        refine G_icmp_le C 67 63 dX6_takeNumber_60 rfl rfl (fun c60 => ?_) (fun c60 => ?_)
        ·
          have n60 : ¬ 4 < (k - i) := fun hq_ => c60 ((g_ltN (a := 4) (b := (k - i)) (hx := rfl) (hy := Nx58) (by omega) (by omega)).mpr hq_)
          refine G_iconst (v := 1) C 68 dX6_takeNumber_67 rfl rfl ?_
          refine X6_32p C 71 dX6_takeNumber_68 rfl (fun s68 es68 => ?_)
          have f_3 : c_N s s68 := c_N.up f_2 es68 (by decide)
          have f2_3 : s68 3 2 = nI 1 := by rw [es68, g_up_sj]; exact (if_pos rfl).trans rfl
          have f3_3 : s68 3 3 = s 3 3 := by rw [es68, g_up_sj]; exact (if_neg (by decide)).trans f3_2
          have f4_3 : s68 3 4 = nI k := by rw [es68, g_up_sj]; exact (if_neg (by decide)).trans f4_2
          exact G_vret C dX6_takeNumber_71 (⟨f_3, by rw [hm]; exact f4_3, f3_3, by rw [hm]; exact f2_3.trans (if_neg (by omega)).symm, fun hh => by rw [hm] at hh ⊢; rw [es68, g_up_sj, if_neg (by decide), es52, g_up_sj, if_neg (by decide)]; exact hvl hh⟩)
        ·
          have n60 : 4 < (k - i) := (g_ltN (a := 4) (b := (k - i)) (hx := rfl) (hy := Nx58) (by omega) (by omega)).mp c60
          refine G_iconst (v := 2) C 64 dX6_takeNumber_63 rfl rfl ?_
          refine G_goto C 68 dX6_takeNumber_64 rfl ?_
          refine X6_32p C 71 dX6_takeNumber_68 rfl (fun s68 es68 => ?_)
          have f_3 : c_N s s68 := c_N.up f_2 es68 (by decide)
          have f2_3 : s68 3 2 = nI 2 := by rw [es68, g_up_sj]; exact (if_pos rfl).trans rfl
          have f3_3 : s68 3 3 = s 3 3 := by rw [es68, g_up_sj]; exact (if_neg (by decide)).trans f3_2
          have f4_3 : s68 3 4 = nI k := by rw [es68, g_up_sj]; exact (if_neg (by decide)).trans f4_2
          exact G_vret C dX6_takeNumber_71 (⟨f_3, by rw [hm]; exact f4_3, f3_3, by rw [hm]; exact f2_3.trans (if_pos (by omega)).symm, fun hh => by rw [hm] at hh ⊢; rw [es68, g_up_sj, if_neg (by decide), es52, g_up_sj, if_neg (by decide)]; exact hvl hh⟩)
      ·
        have n12 : k < e := (g_ltN (a := k) (b := e) (hx := Ew) (hy := Sx9) (by omega) (by omega)).mp c12
        refine G_aload_n (i := 0) C 16 dX6_takeNumber_15 rfl rfl rfl ?_
        refine G_iload_n (i := 2) C 17 dX6_takeNumber_16 rfl rfl rfl ?_
        refine G_calli 20 (G_runV C Kc_X6_isDigit KV_X6_82 (by omega) (by decide) (eTp _ _ _) rfl (c_X6_isDigit 0 sl7 k e w Ew ((fl7.2 1 (by decide)).trans he) (by omega) he160) rfl rfl rfl (Nat.le_of_ble_eq_true rfl) rfl dX6_takeNumber_17) rfl (fun x17 s17 h17 => ?_)
        obtain ⟨es17, h17⟩ := h17
        have es17 := es17.symm
        subst es17
        refine G_if_eq C 50 23 dX6_takeNumber_20 rfl rfl (fun c20 => ?_) (fun c20 => ?_)
        ·
          have k20 := h17.symm.trans c20
          have hm : t_end (s 4) e 48 57 i = k := hte.symm.trans (t_end_n (by omega) (by rw [← congrFun (fl7.1 4 (by decide)) k]; exact k20))
          refine G_aload_n (i := 0) C 51 dX6_takeNumber_50 rfl rfl rfl ?_
          refine G_iload_n (i := 2) C 52 dX6_takeNumber_51 rfl rfl rfl ?_
          refine X6_26p C 55 dX6_takeNumber_52 rfl (fun s52 es52 => ?_)
          have f_2 : c_N s s52 := c_N.up fl7 es52 (by decide)
          have f2_2 : s52 3 2 = s 3 2 := by rw [es52, g_up_sj]; exact (if_neg (by decide)).trans f2l7
          have f3_2 : s52 3 3 = s 3 3 := by rw [es52, g_up_sj]; exact (if_neg (by decide)).trans f3l7
          have f4_2 : s52 3 4 = nI k := by rw [es52, g_up_sj]; exact (if_pos rfl).trans Ew
          refine G_aload_n (i := 0) C 56 dX6_takeNumber_55 rfl rfl rfl ?_
          refine G_iload_n (i := 2) C 57 dX6_takeNumber_56 rfl rfl rfl ?_
          refine G_iload_n (i := 1) C 58 dX6_takeNumber_57 rfl rfl rfl ?_
          refine G_isub C 59 dX6_takeNumber_58 rfl (fun x58 ex58 => ?_)
          have Nx58 : x58 = nI (k - i) := g_subN ex58 Ew hv (by omega)
          refine G_iconst (v := 4) C 60 dX6_takeNumber_59 rfl rfl ?_
          refine G_icmp_le C 67 63 dX6_takeNumber_60 rfl rfl (fun c60 => ?_) (fun c60 => ?_)
          ·
            have n60 : ¬ 4 < (k - i) := fun hq_ => c60 ((g_ltN (a := 4) (b := (k - i)) (hx := rfl) (hy := Nx58) (by omega) (by omega)).mpr hq_)
            refine G_iconst (v := 1) C 68 dX6_takeNumber_67 rfl rfl ?_
            refine X6_32p C 71 dX6_takeNumber_68 rfl (fun s68 es68 => ?_)
            have f_3 : c_N s s68 := c_N.up f_2 es68 (by decide)
            have f2_3 : s68 3 2 = nI 1 := by rw [es68, g_up_sj]; exact (if_pos rfl).trans rfl
            have f3_3 : s68 3 3 = s 3 3 := by rw [es68, g_up_sj]; exact (if_neg (by decide)).trans f3_2
            have f4_3 : s68 3 4 = nI k := by rw [es68, g_up_sj]; exact (if_neg (by decide)).trans f4_2
            exact G_vret C dX6_takeNumber_71 (⟨f_3, by rw [hm]; exact f4_3, f3_3, by rw [hm]; exact f2_3.trans (if_neg (by omega)).symm, fun hh => by rw [hm] at hh ⊢; rw [es68, g_up_sj, if_neg (by decide), es52, g_up_sj, if_neg (by decide)]; exact hvl hh⟩)
          ·
            have n60 : 4 < (k - i) := (g_ltN (a := 4) (b := (k - i)) (hx := rfl) (hy := Nx58) (by omega) (by omega)).mp c60
            refine G_iconst (v := 2) C 64 dX6_takeNumber_63 rfl rfl ?_
            refine G_goto C 68 dX6_takeNumber_64 rfl ?_
            refine X6_32p C 71 dX6_takeNumber_68 rfl (fun s68 es68 => ?_)
            have f_3 : c_N s s68 := c_N.up f_2 es68 (by decide)
            have f2_3 : s68 3 2 = nI 2 := by rw [es68, g_up_sj]; exact (if_pos rfl).trans rfl
            have f3_3 : s68 3 3 = s 3 3 := by rw [es68, g_up_sj]; exact (if_neg (by decide)).trans f3_2
            have f4_3 : s68 3 4 = nI k := by rw [es68, g_up_sj]; exact (if_neg (by decide)).trans f4_2
            exact G_vret C dX6_takeNumber_71 (⟨f_3, by rw [hm]; exact f4_3, f3_3, by rw [hm]; exact f2_3.trans (if_pos (by omega)).symm, fun hh => by rw [hm] at hh ⊢; rw [es68, g_up_sj, if_neg (by decide), es52, g_up_sj, if_neg (by decide)]; exact hvl hh⟩)
        ·
          have k20 := g_neT h17 c20
          have kd : ¬ x_in (s 4 k) 48 57 = 0 := by rw [← congrFun (fl7.1 4 (by decide)) k]; exact k20
          refine G_aload_n (i := 0) C 24 dX6_takeNumber_23 rfl rfl rfl ?_
          refine G_aload_n (i := 0) C 25 dX6_takeNumber_24 rfl rfl rfl ?_
          refine X6_68g C 28 dX6_takeNumber_25 rfl (fun x25 ex25 => ?_)
          refine G_bipush (v := 10) C 30 dX6_takeNumber_28 rfl rfl ?_
          refine G_imul C 31 dX6_takeNumber_30 rfl (fun x30 ex30 => ?_)
          refine G_aload_n (i := 0) C 32 dX6_takeNumber_31 rfl rfl rfl ?_
          refine X6_9g C 35 dX6_takeNumber_32 rfl ?_
          refine G_iload_n (i := 2) C 36 dX6_takeNumber_35 rfl rfl rfl ?_
          refine G_iald (n := 160) C 37 (by decide) (eTb _ _ _) (k) Ew (by omega) (by decide) dX6_takeNumber_36 rfl (fun x36 ex36 => ?_)
          have Sx36 : x36 = s 4 k := ex36.trans (congrFun (fl7.1 4 (by decide)) k)
          refine G_iadd C 38 dX6_takeNumber_37 rfl (fun x37 ex37 => ?_)
          refine G_bipush (v := 48) C 40 dX6_takeNumber_38 rfl rfl ?_
          refine G_isub C 41 dX6_takeNumber_40 rfl (fun x40 ex40 => ?_)
          refine X6_68p C 44 dX6_takeNumber_41 rfl (fun s41 es41 => ?_)
          have f_2 : c_N s s41 := c_N.up fl7 es41 (by decide)
          have f2_2 : s41 3 2 = s 3 2 := by rw [es41, g_up_sj]; exact (if_neg (by decide)).trans f2l7
          have f3_2 : s41 3 3 = s 3 3 := by rw [es41, g_up_sj]; exact (if_neg (by decide)).trans f3l7
          have f4_2 : s41 3 4 = s 3 4 := by rw [es41, g_up_sj]; exact (if_neg (by decide)).trans f4l7
          refine G_iinc (w := 1) C 47 dX6_takeNumber_44 rfl rfl rfl rfl (fun x44 ex44 => ?_)
          have Nx44 : x44 = nI (k + 1) := g_addN ex44 Ew rfl
          show GW SC E _ 47 [some (.ref (e_ad E 3)), some (.int v), some (.int x44)] [] s41
          refine G_goto C 7 dX6_takeNumber_47 rfl ?_
          exact ih7 (k + 1) x44 s41 (g_cn (a := (k + 1)) Nx44 (by first | rfl | omega | (simp only [List.length_cons, List.length_drop]; done) | (simp only [List.length_cons, List.length_drop]; omega))) (by omega) (by omega) ((t_end_s (by omega) kd).symm.trans hte) (fun hh => by
                  rw [es41, g_up_sj, if_pos rfl, show k + 1 - i = (k - i) + 1 by omega]
                  exact t_valT (ex25.trans (hvl (by omega))) (by rw [show i + (k - i) = k by omega]; exact kd) (by rw [show i + (k - i) = k by omega]; exact Sx36) ex30 ex37 ex40) f_2 f2_2 f3_2 f4_2 (by omega)
  exact L7 (e + 1) i v s4 (g_cn (a := i) hv (by first | rfl | omega)) (by omega) (by omega) (rfl) (fun _ => by rw [Nat.sub_self]; exact f5_1) f_1 f2_1 f3_1 f4_1 (by omega)
