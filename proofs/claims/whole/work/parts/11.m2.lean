def x_isOf (kind k : Int32) : Int32 := if k = 0 then 1 else if k = kind then 1 else if kind = 3 then (if k = 1 then 1 else 0) else if kind = 4 then (if k = 2 then 1 else 0) else 0
theorem x_kwC01 (a b c : Int32) : x_kwC a b c = 0 ∨ x_kwC a b c = 1 := by unfold x_kwC; repeat (first | split | exact Or.inl rfl | exact Or.inr rfl)
theorem x_kwM01 (a b c e : Int32) : x_kwM a b c e = 0 ∨ x_kwM a b c e = 1 := by unfold x_kwM; repeat (first | split | exact Or.inl rfl | exact Or.inr rfl)
theorem x_kw01 (k a b c e h : Int32) : x_kw k a b c e h = 0 ∨ x_kw k a b c e h = 1 := by unfold x_kw; repeat (first | split | exact Or.inl rfl | exact Or.inr rfl | exact x_kwC01 _ _ _ | exact x_kwM01 _ _ _ _)
theorem x_hears01 {k u m h : Int32} (hu : u = 0 ∨ u = 1) : x_hears k u m h = 0 ∨ x_hears k u m h = 1 := by unfold x_hears x_hearsD; repeat (first | split | exact Or.inl rfl | exact Or.inr rfl)
theorem x_isOf01 (k m : Int32) : x_isOf k m = 0 ∨ x_isOf k m = 1 := by unfold x_isOf; repeat (first | split | exact Or.inl rfl | exact Or.inr rfl)
theorem gRun_mono {S : gSd} {E : gE} {pc : Nat} {L : List (Option Value)} {st0 rest : List Value} {σ : gS} {P P' : Int32 → gS → Prop} {av : Array Value} (h : gRun S E pc L st0 rest σ (gQi S P (e_D E) (e_cA E) (e_ad E) av)) (hm : ∀ r s', P r s' → P' r s') : gRun S E pc L st0 rest σ (gQi S P' (e_D E) (e_cA E) (e_ad E) av) := by
  intro H locs ls hP hS hl hz T hT X
  obtain ⟨v, st₀, t, T', Lc, h0, X', hL, e1, e2, ⟨⟨r, u, hv, hp, hb⟩, hq⟩, st⟩ := h H locs ls hP hS hl hz T hT X
  exact ⟨v, st₀, t, T', Lc, h0, X', hL, e1, e2, ⟨⟨r, u, hv, hm r u hp, hb⟩, hq⟩, st⟩
theorem dX0_hears_0 : decode cX0_hears 0 = .ok (.iload_n 1, 1) := by decide +kernel
theorem dX0_hears_1 : decode cX0_hears 1 = .ok (.ireturn, 1) := by decide +kernel
set_option maxHeartbeats 4000000 in
set_option maxRecDepth 100000 in
theorem c_X0_hears (k : Nat) (u m h : Int32) (hu : u = 0 ∨ u = 1) (s : gS) : gMt SC yX0_hears cX0_hears 4 (some .boolean) 1 (fun ad => [.ref (ad k), .int u, .int m, .int h]) s (gQi SC (fun r s' => s' = s ∧ r = u)) := by
  refine gMt_of SC_ok (by decide +kernel) (fun ad => [some (.ref (ad k)), some (.int u), some (.int m), some (.int h)]) (fun _ => rfl) (fun _ => rfl) (fun _ => Nat.le_of_ble_eq_true rfl) (fun E C0 => ?_)
  have C : gCx SC E RX0 cX0_hears 4 (some .boolean) 1 := C0
  refine G_iload_n (i := 1) C 1 dX0_hears_0 rfl rfl rfl ?_
  exact G_zret C (g_nb hu) dX0_hears_1 (⟨rfl, rfl⟩)
theorem dX1_hears_0 : decode cX1_hears 0 = .ok (.iload_n 1, 1) := by decide +kernel
theorem dX1_hears_1 : decode cX1_hears 1 = .ok (.ifCond .eq 16, 3) := by decide +kernel
theorem dX1_hears_4 : decode cX1_hears 4 = .ok (.iload_n 3, 1) := by decide +kernel
theorem dX1_hears_5 : decode cX1_hears 5 = .ok (.iconst 3, 1) := by decide +kernel
theorem dX1_hears_6 : decode cX1_hears 6 = .ok (.irem, 1) := by decide +kernel
theorem dX1_hears_7 : decode cX1_hears 7 = .ok (.iload_n 2, 1) := by decide +kernel
theorem dX1_hears_8 : decode cX1_hears 8 = .ok (.iconst 3, 1) := by decide +kernel
theorem dX1_hears_9 : decode cX1_hears 9 = .ok (.irem, 1) := by decide +kernel
theorem dX1_hears_10 : decode cX1_hears 10 = .ok (.if_icmp .eq 7, 3) := by decide +kernel
theorem dX1_hears_13 : decode cX1_hears 13 = .ok (.iconst 1, 1) := by decide +kernel
theorem dX1_hears_14 : decode cX1_hears 14 = .ok (.goto 4, 3) := by decide +kernel
theorem dX1_hears_17 : decode cX1_hears 17 = .ok (.iconst 0, 1) := by decide +kernel
theorem dX1_hears_18 : decode cX1_hears 18 = .ok (.ireturn, 1) := by decide +kernel
set_option maxHeartbeats 4000000 in
set_option maxRecDepth 100000 in
theorem c_X1_hears (k : Nat) (u m h : Int32) (hu : u = 0 ∨ u = 1) (s : gS) : gMt SC yX1_hears cX1_hears 4 (some .boolean) 1 (fun ad => [.ref (ad k), .int u, .int m, .int h]) s (gQi SC (fun r s' => s' = s ∧ r = x_hearsD u m h)) := by
  refine gMt_of SC_ok (by decide +kernel) (fun ad => [some (.ref (ad k)), some (.int u), some (.int m), some (.int h)]) (fun _ => rfl) (fun _ => rfl) (fun _ => Nat.le_of_ble_eq_true rfl) (fun E C0 => ?_)
  have C : gCx SC E RX1 cX1_hears 4 (some .boolean) 1 := C0
  refine G_iload_n (i := 1) C 1 dX1_hears_0 rfl rfl rfl ?_
  refine G_if_eq C 17 4 dX1_hears_1 rfl rfl (fun c1 => ?_) (fun c1 => ?_)
  ·
    refine G_iconst (v := 0) C 18 dX1_hears_17 rfl rfl ?_
    exact G_zret C rfl dX1_hears_18 (⟨rfl, by rcases hu with rfl | rfl <;> simp_all [x_hearsD]⟩)
  ·
    refine G_iload_n (i := 3) C 5 dX1_hears_4 rfl rfl rfl ?_
    refine G_iconst (v := 3) C 6 dX1_hears_5 rfl rfl ?_
    refine G_irem C 7 dX1_hears_6 rfl (by decide) (fun x6 ex6 => ?_)
    refine G_iload_n (i := 2) C 8 dX1_hears_7 rfl rfl rfl ?_
    refine G_iconst (v := 3) C 9 dX1_hears_8 rfl rfl ?_
    refine G_irem C 10 dX1_hears_9 rfl (by decide) (fun x9 ex9 => ?_)
    refine G_icmp_eq C 17 13 dX1_hears_10 rfl rfl (fun c10 => ?_) (fun c10 => ?_)
    ·
      refine G_iconst (v := 0) C 18 dX1_hears_17 rfl rfl ?_
      exact G_zret C rfl dX1_hears_18 (⟨rfl, by rcases hu with rfl | rfl <;> simp_all [x_hearsD]⟩)
    ·
      refine G_iconst (v := 1) C 14 dX1_hears_13 rfl rfl ?_
      refine G_goto C 18 dX1_hears_14 rfl ?_
      exact G_zret C rfl dX1_hears_18 (⟨rfl, by rcases hu with rfl | rfl <;> simp_all [x_hearsD]⟩)
theorem dX8_hears_0 : decode cX8_hears 0 = .ok (.iconst 1, 1) := by decide +kernel
theorem dX8_hears_1 : decode cX8_hears 1 = .ok (.ireturn, 1) := by decide +kernel
set_option maxHeartbeats 4000000 in
set_option maxRecDepth 100000 in
theorem c_X8_hears (k : Nat) (u m h : Int32) (hu : u = 0 ∨ u = 1) (s : gS) : gMt SC yX8_hears cX8_hears 4 (some .boolean) 1 (fun ad => [.ref (ad k), .int u, .int m, .int h]) s (gQi SC (fun r s' => s' = s ∧ r = (1 : Int32))) := by
  refine gMt_of SC_ok (by decide +kernel) (fun ad => [some (.ref (ad k)), some (.int u), some (.int m), some (.int h)]) (fun _ => rfl) (fun _ => rfl) (fun _ => Nat.le_of_ble_eq_true rfl) (fun E C0 => ?_)
  have C : gCx SC E RX8 cX8_hears 4 (some .boolean) 1 := C0
  refine G_iconst (v := 1) C 1 dX8_hears_0 rfl rfl ?_
  exact G_zret C rfl dX8_hears_1 (⟨rfl, rfl⟩)
theorem dX0_wishes_0 : decode cX0_wishes 0 = .ok (.iload_n 1, 1) := by decide +kernel
theorem dX0_wishes_1 : decode cX0_wishes 1 = .ok (.ifCond .eq 12, 3) := by decide +kernel
theorem dX0_wishes_4 : decode cX0_wishes 4 = .ok (.iload_n 2, 1) := by decide +kernel
theorem dX0_wishes_5 : decode cX0_wishes 5 = .ok (.iload_n 3, 1) := by decide +kernel
theorem dX0_wishes_6 : decode cX0_wishes 6 = .ok (.if_icmp .lt 7, 3) := by decide +kernel
theorem dX0_wishes_9 : decode cX0_wishes 9 = .ok (.iconst 1, 1) := by decide +kernel
theorem dX0_wishes_10 : decode cX0_wishes 10 = .ok (.goto 4, 3) := by decide +kernel
theorem dX0_wishes_13 : decode cX0_wishes 13 = .ok (.iconst 0, 1) := by decide +kernel
theorem dX0_wishes_14 : decode cX0_wishes 14 = .ok (.ireturn, 1) := by decide +kernel
set_option maxHeartbeats 4000000 in
set_option maxRecDepth 100000 in
theorem c_X0_wishes (d : Nat) (k : Nat) (a cu dr mo ho : Int32) (hu : a = 0 ∨ a = 1) (s : gS) : gMt SC yX0_wishes cX0_wishes 6 (some .boolean) (d + 1) (fun ad => [.ref (ad k), .int a, .int cu, .int dr, .int mo, .int ho]) s (gQi SC (fun r s' => s' = s ∧ r = x_kwC a cu dr)) := by
  refine gMt_of SC_ok (by decide +kernel) (fun ad => [some (.ref (ad k)), some (.int a), some (.int cu), some (.int dr), some (.int mo), some (.int ho)]) (fun _ => rfl) (fun _ => rfl) (fun _ => Nat.le_of_ble_eq_true rfl) (fun E C0 => ?_)
  have C : gCx SC E RX0 cX0_wishes 6 (some .boolean) (d + 1) := C0
  refine G_iload_n (i := 1) C 1 dX0_wishes_0 rfl rfl rfl ?_
  refine G_if_eq C 13 4 dX0_wishes_1 rfl rfl (fun c1 => ?_) (fun c1 => ?_)
  ·
    refine G_iconst (v := 0) C 14 dX0_wishes_13 rfl rfl ?_
    exact G_zret C rfl dX0_wishes_14 (⟨rfl, by rcases hu with rfl | rfl <;> simp_all [x_kwC]⟩)
  ·
    refine G_iload_n (i := 2) C 5 dX0_wishes_4 rfl rfl rfl ?_
    refine G_iload_n (i := 3) C 6 dX0_wishes_5 rfl rfl rfl ?_
    refine G_icmp_lt C 13 9 dX0_wishes_6 rfl rfl (fun c6 => ?_) (fun c6 => ?_)
    ·
      refine G_iconst (v := 0) C 14 dX0_wishes_13 rfl rfl ?_
      exact G_zret C rfl dX0_wishes_14 (⟨rfl, by rcases hu with rfl | rfl <;> simp_all [x_kwC]⟩)
    ·
      refine G_iconst (v := 1) C 10 dX0_wishes_9 rfl rfl ?_
      refine G_goto C 14 dX0_wishes_10 rfl ?_
      exact G_zret C rfl dX0_wishes_14 (⟨rfl, by rcases hu with rfl | rfl <;> simp_all [x_kwC]⟩)
theorem dX3_wishes_0 : decode cX3_wishes 0 = .ok (.iload_n 1, 1) := by decide +kernel
theorem dX3_wishes_1 : decode cX3_wishes 1 = .ok (.ifCond .ne 14, 3) := by decide +kernel
theorem dX3_wishes_4 : decode cX3_wishes 4 = .ok (.iload_n 2, 1) := by decide +kernel
theorem dX3_wishes_5 : decode cX3_wishes 5 = .ok (.bipush 10, 2) := by decide +kernel
theorem dX3_wishes_7 : decode cX3_wishes 7 = .ok (.iload 4, 2) := by decide +kernel
theorem dX3_wishes_9 : decode cX3_wishes 9 = .ok (.imul, 1) := by decide +kernel
theorem dX3_wishes_10 : decode cX3_wishes 10 = .ok (.iadd, 1) := by decide +kernel
theorem dX3_wishes_11 : decode cX3_wishes 11 = .ok (.iload_n 3, 1) := by decide +kernel
theorem dX3_wishes_12 : decode cX3_wishes 12 = .ok (.if_icmp .ge 7, 3) := by decide +kernel
theorem dX3_wishes_15 : decode cX3_wishes 15 = .ok (.iconst 1, 1) := by decide +kernel
theorem dX3_wishes_16 : decode cX3_wishes 16 = .ok (.goto 4, 3) := by decide +kernel
theorem dX3_wishes_19 : decode cX3_wishes 19 = .ok (.iconst 0, 1) := by decide +kernel
theorem dX3_wishes_20 : decode cX3_wishes 20 = .ok (.ireturn, 1) := by decide +kernel
set_option maxHeartbeats 4000000 in
set_option maxRecDepth 100000 in
theorem c_X3_wishes (d : Nat) (k : Nat) (a cu dr mo ho : Int32) (hu : a = 0 ∨ a = 1) (s : gS) : gMt SC yX3_wishes cX3_wishes 6 (some .boolean) (d + 1) (fun ad => [.ref (ad k), .int a, .int cu, .int dr, .int mo, .int ho]) s (gQi SC (fun r s' => s' = s ∧ r = x_kwM a cu dr mo)) := by
  refine gMt_of SC_ok (by decide +kernel) (fun ad => [some (.ref (ad k)), some (.int a), some (.int cu), some (.int dr), some (.int mo), some (.int ho)]) (fun _ => rfl) (fun _ => rfl) (fun _ => Nat.le_of_ble_eq_true rfl) (fun E C0 => ?_)
  have C : gCx SC E RX3 cX3_wishes 6 (some .boolean) (d + 1) := C0
  refine G_iload_n (i := 1) C 1 dX3_wishes_0 rfl rfl rfl ?_
  refine G_if_ne C 15 4 dX3_wishes_1 rfl rfl (fun c1 => ?_) (fun c1 => ?_)
  ·
    refine G_iconst (v := 1) C 16 dX3_wishes_15 rfl rfl ?_
    refine G_goto C 20 dX3_wishes_16 rfl ?_
    exact G_zret C rfl dX3_wishes_20 (⟨rfl, by rcases hu with rfl | rfl <;> simp_all [x_kwM]⟩)
  ·
    refine G_iload_n (i := 2) C 5 dX3_wishes_4 rfl rfl rfl ?_
    refine G_bipush (v := 10) C 7 dX3_wishes_5 rfl rfl ?_
    refine G_iload C 9 dX3_wishes_7 rfl rfl ?_
    refine G_imul C 10 dX3_wishes_9 rfl (fun x9 ex9 => ?_)
    refine G_iadd C 11 dX3_wishes_10 rfl (fun x10 ex10 => ?_)
    refine G_iload_n (i := 3) C 12 dX3_wishes_11 rfl rfl rfl ?_
    refine G_icmp_ge C 19 15 dX3_wishes_12 rfl rfl (fun c12 => ?_) (fun c12 => ?_)
    ·
      refine G_iconst (v := 0) C 20 dX3_wishes_19 rfl rfl ?_
      exact G_zret C rfl dX3_wishes_20 (⟨rfl, by rcases hu with rfl | rfl <;> simp_all [x_kwM]⟩)
    ·
      refine G_iconst (v := 1) C 16 dX3_wishes_15 rfl rfl ?_
      refine G_goto C 20 dX3_wishes_16 rfl ?_
      exact G_zret C rfl dX3_wishes_20 (⟨rfl, by rcases hu with rfl | rfl <;> simp_all [x_kwM]⟩)
theorem dX5_wishes_0 : decode cX5_wishes 0 = .ok (.iconst 0, 1) := by decide +kernel
theorem dX5_wishes_1 : decode cX5_wishes 1 = .ok (.ireturn, 1) := by decide +kernel
set_option maxHeartbeats 4000000 in
set_option maxRecDepth 100000 in
theorem c_X5_wishes (d : Nat) (k : Nat) (a cu dr mo ho : Int32) (hu : a = 0 ∨ a = 1) (s : gS) : gMt SC yX5_wishes cX5_wishes 6 (some .boolean) (d + 1) (fun ad => [.ref (ad k), .int a, .int cu, .int dr, .int mo, .int ho]) s (gQi SC (fun r s' => s' = s ∧ r = (0 : Int32))) := by
  refine gMt_of SC_ok (by decide +kernel) (fun ad => [some (.ref (ad k)), some (.int a), some (.int cu), some (.int dr), some (.int mo), some (.int ho)]) (fun _ => rfl) (fun _ => rfl) (fun _ => Nat.le_of_ble_eq_true rfl) (fun E C0 => ?_)
  have C : gCx SC E RX5 cX5_wishes 6 (some .boolean) (d + 1) := C0
  refine G_iconst (v := 0) C 1 dX5_wishes_0 rfl rfl ?_
  exact G_zret C rfl dX5_wishes_1 (⟨rfl, rfl⟩)
theorem dX8_wishes_0 : decode cX8_wishes 0 = .ok (.iload 5, 2) := by decide +kernel
theorem dX8_wishes_2 : decode cX8_wishes 2 = .ok (.iconst 2, 1) := by decide +kernel
theorem dX8_wishes_3 : decode cX8_wishes 3 = .ok (.irem, 1) := by decide +kernel
theorem dX8_wishes_4 : decode cX8_wishes 4 = .ok (.ifCond .ne 24, 3) := by decide +kernel
theorem dX8_wishes_7 : decode cX8_wishes 7 = .ok (.aload_n 0, 1) := by decide +kernel
theorem dX8_wishes_8 : decode cX8_wishes 8 = .ok (.iload_n 1, 1) := by decide +kernel
theorem dX8_wishes_9 : decode cX8_wishes 9 = .ok (.iload_n 2, 1) := by decide +kernel
theorem dX8_wishes_10 : decode cX8_wishes 10 = .ok (.iload 4, 2) := by decide +kernel
theorem dX8_wishes_12 : decode cX8_wishes 12 = .ok (.iadd, 1) := by decide +kernel
theorem dX8_wishes_13 : decode cX8_wishes 13 = .ok (.iload_n 3, 1) := by decide +kernel
theorem dX8_wishes_14 : decode cX8_wishes 14 = .ok (.iload 4, 2) := by decide +kernel
theorem dX8_wishes_16 : decode cX8_wishes 16 = .ok (.iload 5, 2) := by decide +kernel
theorem dX8_wishes_18 : decode cX8_wishes 18 = .ok (.invokespecial 11, 3) := by decide +kernel
theorem dX8_wishes_21 : decode cX8_wishes 21 = .ok (.ifCond .eq 7, 3) := by decide +kernel
theorem dX8_wishes_24 : decode cX8_wishes 24 = .ok (.iconst 1, 1) := by decide +kernel
theorem dX8_wishes_25 : decode cX8_wishes 25 = .ok (.goto 4, 3) := by decide +kernel
theorem dX8_wishes_28 : decode cX8_wishes 28 = .ok (.iconst 0, 1) := by decide +kernel
theorem dX8_wishes_29 : decode cX8_wishes 29 = .ok (.ireturn, 1) := by decide +kernel
set_option maxHeartbeats 4000000 in
set_option maxRecDepth 100000 in
theorem c_X8_wishes (a cu dr mo ho : Int32) (hu : a = 0 ∨ a = 1) (s : gS) : gMt SC yX8_wishes cX8_wishes 6 (some .boolean) 2 (fun ad => [.ref (ad 42), .int a, .int cu, .int dr, .int mo, .int ho]) s (gQi SC (fun r s' => s' = s ∧ r = if ho - ho / 2 * 2 = 0 then x_kwM a (cu + mo) dr mo else 0)) := by
  refine gMt_of SC_ok (by decide +kernel) (fun ad => [some (.ref (ad 42)), some (.int a), some (.int cu), some (.int dr), some (.int mo), some (.int ho)]) (fun _ => rfl) (fun _ => rfl) (fun _ => Nat.le_of_ble_eq_true rfl) (fun E C0 => ?_)
  have C : gCx SC E RX8 cX8_wishes 6 (some .boolean) 2 := C0
  refine G_iload C 2 dX8_wishes_0 rfl rfl ?_
  refine G_iconst (v := 2) C 3 dX8_wishes_2 rfl rfl ?_
  refine G_irem C 4 dX8_wishes_3 rfl (by decide) (fun x3 ex3 => ?_)
  refine G_if_ne C 28 7 dX8_wishes_4 rfl rfl (fun c4 => ?_) (fun c4 => ?_)
  ·
    refine G_iconst (v := 0) C 29 dX8_wishes_28 rfl rfl ?_
    exact G_zret C rfl dX8_wishes_29 (⟨rfl, by first | (rw [if_neg (by rw [← ex3]; assumption)]) | (rw [if_pos (by rw [← ex3]; assumption)]; rcases x_kwM01 a (cu + mo) dr mo with q | q <;> simp_all)⟩)
  ·
    refine G_aload_n (i := 0) C 8 dX8_wishes_7 rfl rfl rfl ?_
    refine G_iload_n (i := 1) C 9 dX8_wishes_8 rfl rfl rfl ?_
    refine G_iload_n (i := 2) C 10 dX8_wishes_9 rfl rfl rfl ?_
    refine G_iload C 12 dX8_wishes_10 rfl rfl ?_
    refine G_iadd C 13 dX8_wishes_12 rfl (fun x12 ex12 => ?_)
    refine G_iload_n (i := 3) C 14 dX8_wishes_13 rfl rfl rfl ?_
    refine G_iload C 16 dX8_wishes_14 rfl rfl ?_
    refine G_iload C 18 dX8_wishes_16 rfl rfl ?_
    refine G_calli 21 (G_runP C Kc_X3_wishes KP_X8_11 (by omega) (by decide) rfl rfl (c_X3_wishes 0 42 a x12 dr mo ho hu s) rfl rfl rfl (by decide) rfl dX8_wishes_18) rfl (fun x18 s18 h18 => ?_)
    obtain ⟨es18, h18⟩ := h18
    have es18 := es18.symm
    subst es18
    refine G_if_eq C 28 24 dX8_wishes_21 rfl rfl (fun c21 => ?_) (fun c21 => ?_)
    ·
      refine G_iconst (v := 0) C 29 dX8_wishes_28 rfl rfl ?_
      exact G_zret C rfl dX8_wishes_29 (⟨rfl, by first | (rw [if_neg (by rw [← ex3]; assumption)]) | (rw [if_pos (by rw [← ex3]; assumption)]; rcases x_kwM01 a (cu + mo) dr mo with q | q <;> simp_all)⟩)
    ·
      refine G_iconst (v := 1) C 25 dX8_wishes_24 rfl rfl ?_
      refine G_goto C 29 dX8_wishes_25 rfl ?_
      exact G_zret C rfl dX8_wishes_29 (⟨rfl, by first | (rw [if_neg (by rw [← ex3]; assumption)]) | (rw [if_pos (by rw [← ex3]; assumption)]; rcases x_kwM01 a (cu + mo) dr mo with q | q <;> simp_all)⟩)
theorem dX2_wishes_0 : decode cX2_wishes 0 = .ok (.aload_n 0, 1) := by decide +kernel
theorem dX2_wishes_1 : decode cX2_wishes 1 = .ok (.iload_n 1, 1) := by decide +kernel
theorem dX2_wishes_2 : decode cX2_wishes 2 = .ok (.iload_n 2, 1) := by decide +kernel
theorem dX2_wishes_3 : decode cX2_wishes 3 = .ok (.iload_n 3, 1) := by decide +kernel
theorem dX2_wishes_4 : decode cX2_wishes 4 = .ok (.iload 4, 2) := by decide +kernel
theorem dX2_wishes_6 : decode cX2_wishes 6 = .ok (.iload 5, 2) := by decide +kernel
theorem dX2_wishes_8 : decode cX2_wishes 8 = .ok (.invokespecial 11, 3) := by decide +kernel
theorem dX2_wishes_11 : decode cX2_wishes 11 = .ok (.ifCond .ne 7, 3) := by decide +kernel
theorem dX2_wishes_14 : decode cX2_wishes 14 = .ok (.iconst 1, 1) := by decide +kernel
theorem dX2_wishes_15 : decode cX2_wishes 15 = .ok (.goto 4, 3) := by decide +kernel
theorem dX2_wishes_18 : decode cX2_wishes 18 = .ok (.iconst 0, 1) := by decide +kernel
theorem dX2_wishes_19 : decode cX2_wishes 19 = .ok (.ireturn, 1) := by decide +kernel
set_option maxHeartbeats 4000000 in
set_option maxRecDepth 100000 in
theorem c_X2_wishes (a cu dr mo ho : Int32) (hu : a = 0 ∨ a = 1) (s : gS) : gMt SC yX2_wishes cX2_wishes 6 (some .boolean) 2 (fun ad => [.ref (ad 43), .int a, .int cu, .int dr, .int mo, .int ho]) s (gQi SC (fun r s' => s' = s ∧ r = if x_kwC a cu dr = 0 then 1 else 0)) := by
  refine gMt_of SC_ok (by decide +kernel) (fun ad => [some (.ref (ad 43)), some (.int a), some (.int cu), some (.int dr), some (.int mo), some (.int ho)]) (fun _ => rfl) (fun _ => rfl) (fun _ => Nat.le_of_ble_eq_true rfl) (fun E C0 => ?_)
  have C : gCx SC E RX2 cX2_wishes 6 (some .boolean) 2 := C0
  refine G_aload_n (i := 0) C 1 dX2_wishes_0 rfl rfl rfl ?_
  refine G_iload_n (i := 1) C 2 dX2_wishes_1 rfl rfl rfl ?_
  refine G_iload_n (i := 2) C 3 dX2_wishes_2 rfl rfl rfl ?_
  refine G_iload_n (i := 3) C 4 dX2_wishes_3 rfl rfl rfl ?_
  refine G_iload C 6 dX2_wishes_4 rfl rfl ?_
  refine G_iload C 8 dX2_wishes_6 rfl rfl ?_
  refine G_calli 11 (G_runI2 C Kc_X0_wishes KI_X2_11 (by omega) (by decide) rfl rfl (c_X0_wishes 0 43 a cu dr mo ho hu s) rfl rfl rfl (by decide) rfl dX2_wishes_8) rfl (fun x8 s8 h8 => ?_)
  obtain ⟨es8, h8⟩ := h8
  have es8 := es8.symm
  subst es8
  refine G_if_ne C 18 14 dX2_wishes_11 rfl rfl (fun c11 => ?_) (fun c11 => ?_)
  ·
    refine G_iconst (v := 0) C 19 dX2_wishes_18 rfl rfl ?_
    exact G_zret C rfl dX2_wishes_19 (⟨rfl, by first | (rw [if_pos (by rw [← h8]; assumption)]) | (rw [if_neg (by rw [← h8]; assumption)])⟩)
  ·
    refine G_iconst (v := 1) C 15 dX2_wishes_14 rfl rfl ?_
    refine G_goto C 19 dX2_wishes_15 rfl ?_
    exact G_zret C rfl dX2_wishes_19 (⟨rfl, by first | (rw [if_pos (by rw [← h8]; assumption)]) | (rw [if_neg (by rw [← h8]; assumption)])⟩)
theorem dX0_goesOn_0 : decode cX0_goesOn 0 = .ok (.iload_n 1, 1) := by decide +kernel
theorem dX0_goesOn_1 : decode cX0_goesOn 1 = .ok (.ireturn, 1) := by decide +kernel
set_option maxHeartbeats 4000000 in
set_option maxRecDepth 100000 in
theorem c_X0_goesOn (d : Nat) (k : Nat) (v m : Int32) (s : gS) : gMt SC yX0_goesOn cX0_goesOn 3 (some .int) (d + 1) (fun ad => [.ref (ad k), .int v, .int m]) s (gQi SC (fun r s' => s' = s ∧ r = v)) := by
  refine gMt_of SC_ok (by decide +kernel) (fun ad => [some (.ref (ad k)), some (.int v), some (.int m)]) (fun _ => rfl) (fun _ => rfl) (fun _ => Nat.le_of_ble_eq_true rfl) (fun E C0 => ?_)
  have C : gCx SC E RX0 cX0_goesOn 3 (some .int) (d + 1) := C0
  refine G_iload_n (i := 1) C 1 dX0_goesOn_0 rfl rfl rfl ?_
  exact G_iret C dX0_goesOn_1 (⟨rfl, by first | rfl | assumption⟩)
theorem dX3_goesOn_0 : decode cX3_goesOn 0 = .ok (.iconst 0, 1) := by decide +kernel
theorem dX3_goesOn_1 : decode cX3_goesOn 1 = .ok (.ireturn, 1) := by decide +kernel
set_option maxHeartbeats 4000000 in
set_option maxRecDepth 100000 in
theorem c_X3_goesOn (d : Nat) (k : Nat) (v m : Int32) (s : gS) : gMt SC yX3_goesOn cX3_goesOn 3 (some .int) (d + 1) (fun ad => [.ref (ad k), .int v, .int m]) s (gQi SC (fun r s' => s' = s ∧ r = (0 : Int32))) := by
  refine gMt_of SC_ok (by decide +kernel) (fun ad => [some (.ref (ad k)), some (.int v), some (.int m)]) (fun _ => rfl) (fun _ => rfl) (fun _ => Nat.le_of_ble_eq_true rfl) (fun E C0 => ?_)
  have C : gCx SC E RX3 cX3_goesOn 3 (some .int) (d + 1) := C0
  refine G_iconst (v := 0) C 1 dX3_goesOn_0 rfl rfl ?_
  exact G_iret C dX3_goesOn_1 (⟨rfl, by first | rfl | assumption⟩)
theorem dX1_goesOn_0 : decode cX1_goesOn 0 = .ok (.iload_n 1, 1) := by decide +kernel
theorem dX1_goesOn_1 : decode cX1_goesOn 1 = .ok (.ineg, 1) := by decide +kernel
theorem dX1_goesOn_2 : decode cX1_goesOn 2 = .ok (.ireturn, 1) := by decide +kernel
set_option maxHeartbeats 4000000 in
set_option maxRecDepth 100000 in
theorem c_X1_goesOn (d : Nat) (k : Nat) (v m : Int32) (s : gS) : gMt SC yX1_goesOn cX1_goesOn 3 (some .int) (d + 1) (fun ad => [.ref (ad k), .int v, .int m]) s (gQi SC (fun r s' => s' = s ∧ r = -v)) := by
  refine gMt_of SC_ok (by decide +kernel) (fun ad => [some (.ref (ad k)), some (.int v), some (.int m)]) (fun _ => rfl) (fun _ => rfl) (fun _ => Nat.le_of_ble_eq_true rfl) (fun E C0 => ?_)
  have C : gCx SC E RX1 cX1_goesOn 3 (some .int) (d + 1) := C0
  refine G_iload_n (i := 1) C 1 dX1_goesOn_0 rfl rfl rfl ?_
  refine G_ineg C 2 dX1_goesOn_1 rfl (fun x1 ex1 => ?_)
  exact G_iret C dX1_goesOn_2 (⟨rfl, by first | rfl | assumption⟩)
theorem dX5_goesOn_0 : decode cX5_goesOn 0 = .ok (.iload_n 2, 1) := by decide +kernel
theorem dX5_goesOn_1 : decode cX5_goesOn 1 = .ok (.ireturn, 1) := by decide +kernel
set_option maxHeartbeats 4000000 in
set_option maxRecDepth 100000 in
theorem c_X5_goesOn (d : Nat) (k : Nat) (v m : Int32) (s : gS) : gMt SC yX5_goesOn cX5_goesOn 3 (some .int) (d + 1) (fun ad => [.ref (ad k), .int v, .int m]) s (gQi SC (fun r s' => s' = s ∧ r = m)) := by
  refine gMt_of SC_ok (by decide +kernel) (fun ad => [some (.ref (ad k)), some (.int v), some (.int m)]) (fun _ => rfl) (fun _ => rfl) (fun _ => Nat.le_of_ble_eq_true rfl) (fun E C0 => ?_)
  have C : gCx SC E RX5 cX5_goesOn 3 (some .int) (d + 1) := C0
  refine G_iload_n (i := 2) C 1 dX5_goesOn_0 rfl rfl rfl ?_
  exact G_iret C dX5_goesOn_1 (⟨rfl, by first | rfl | assumption⟩)
theorem dX2_goesOn_0 : decode cX2_goesOn 0 = .ok (.aload_n 0, 1) := by decide +kernel
theorem dX2_goesOn_1 : decode cX2_goesOn 1 = .ok (.iload_n 1, 1) := by decide +kernel
theorem dX2_goesOn_2 : decode cX2_goesOn 2 = .ok (.iload_n 2, 1) := by decide +kernel
theorem dX2_goesOn_3 : decode cX2_goesOn 3 = .ok (.invokespecial 15, 3) := by decide +kernel
theorem dX2_goesOn_6 : decode cX2_goesOn 6 = .ok (.iload_n 2, 1) := by decide +kernel
theorem dX2_goesOn_7 : decode cX2_goesOn 7 = .ok (.iadd, 1) := by decide +kernel
theorem dX2_goesOn_8 : decode cX2_goesOn 8 = .ok (.ireturn, 1) := by decide +kernel
set_option maxHeartbeats 4000000 in
set_option maxRecDepth 100000 in
theorem c_X2_goesOn (v m : Int32) (s : gS) : gMt SC yX2_goesOn cX2_goesOn 3 (some .int) 2 (fun ad => [.ref (ad 43), .int v, .int m]) s (gQi SC (fun r s' => s' = s ∧ r = -v + m)) := by
  refine gMt_of SC_ok (by decide +kernel) (fun ad => [some (.ref (ad 43)), some (.int v), some (.int m)]) (fun _ => rfl) (fun _ => rfl) (fun _ => Nat.le_of_ble_eq_true rfl) (fun E C0 => ?_)
  have C : gCx SC E RX2 cX2_goesOn 3 (some .int) 2 := C0
  refine G_aload_n (i := 0) C 1 dX2_goesOn_0 rfl rfl rfl ?_
  refine G_iload_n (i := 1) C 2 dX2_goesOn_1 rfl rfl rfl ?_
  refine G_iload_n (i := 2) C 3 dX2_goesOn_2 rfl rfl rfl ?_
  refine G_calli 6 (G_runP C Kc_X1_goesOn KP_X2_15 (by omega) (by decide) rfl rfl (c_X1_goesOn 0 43 v m s) rfl rfl rfl (by decide) rfl dX2_goesOn_3) rfl (fun x3 s3 h3 => ?_)
  obtain ⟨es3, h3⟩ := h3
  have es3 := es3.symm
  subst es3
  refine G_iload_n (i := 2) C 7 dX2_goesOn_6 rfl rfl rfl ?_
  refine G_iadd C 8 dX2_goesOn_7 rfl (fun x7 ex7 => ?_)
  exact G_iret C dX2_goesOn_8 (⟨rfl, by rw [ex7, h3]⟩)
theorem dX0_isOf_0 : decode cX0_isOf 0 = .ok (.iload_n 1, 1) := by decide +kernel
theorem dX0_isOf_1 : decode cX0_isOf 1 = .ok (.ifCond .ne 7, 3) := by decide +kernel
theorem dX0_isOf_4 : decode cX0_isOf 4 = .ok (.iconst 1, 1) := by decide +kernel
theorem dX0_isOf_5 : decode cX0_isOf 5 = .ok (.goto 4, 3) := by decide +kernel
theorem dX0_isOf_8 : decode cX0_isOf 8 = .ok (.iconst 0, 1) := by decide +kernel
theorem dX0_isOf_9 : decode cX0_isOf 9 = .ok (.ireturn, 1) := by decide +kernel
set_option maxHeartbeats 4000000 in
set_option maxRecDepth 100000 in
theorem c_X0_isOf (d : Nat) (k : Nat) (v : Int32) (s : gS) : gMt SC yX0_isOf cX0_isOf 2 (some .boolean) (d + 1) (fun ad => [.ref (ad k), .int v]) s (gQi SC (fun r s' => s' = s ∧ r = if v = 0 then 1 else 0)) := by
  refine gMt_of SC_ok (by decide +kernel) (fun ad => [some (.ref (ad k)), some (.int v)]) (fun _ => rfl) (fun _ => rfl) (fun _ => Nat.le_of_ble_eq_true rfl) (fun E C0 => ?_)
  have C : gCx SC E RX0 cX0_isOf 2 (some .boolean) (d + 1) := C0
  refine G_iload_n (i := 1) C 1 dX0_isOf_0 rfl rfl rfl ?_
  refine G_if_ne C 8 4 dX0_isOf_1 rfl rfl (fun c1 => ?_) (fun c1 => ?_)
  ·
    refine G_iconst (v := 0) C 9 dX0_isOf_8 rfl rfl ?_
    exact G_zret C rfl dX0_isOf_9 (⟨rfl, by simp [*]⟩)
  ·
    refine G_iconst (v := 1) C 5 dX0_isOf_4 rfl rfl ?_
    refine G_goto C 9 dX0_isOf_5 rfl ?_
    exact G_zret C rfl dX0_isOf_9 (⟨rfl, by simp [*]⟩)
theorem dX3_isOf_0 : decode cX3_isOf 0 = .ok (.iload_n 1, 1) := by decide +kernel
theorem dX3_isOf_1 : decode cX3_isOf 1 = .ok (.iconst 1, 1) := by decide +kernel
theorem dX3_isOf_2 : decode cX3_isOf 2 = .ok (.if_icmp .eq 11, 3) := by decide +kernel
theorem dX3_isOf_5 : decode cX3_isOf 5 = .ok (.aload_n 0, 1) := by decide +kernel
theorem dX3_isOf_6 : decode cX3_isOf 6 = .ok (.iload_n 1, 1) := by decide +kernel
theorem dX3_isOf_7 : decode cX3_isOf 7 = .ok (.invokespecial 7, 3) := by decide +kernel
theorem dX3_isOf_10 : decode cX3_isOf 10 = .ok (.ifCond .eq 7, 3) := by decide +kernel
theorem dX3_isOf_13 : decode cX3_isOf 13 = .ok (.iconst 1, 1) := by decide +kernel
theorem dX3_isOf_14 : decode cX3_isOf 14 = .ok (.goto 4, 3) := by decide +kernel
theorem dX3_isOf_17 : decode cX3_isOf 17 = .ok (.iconst 0, 1) := by decide +kernel
theorem dX3_isOf_18 : decode cX3_isOf 18 = .ok (.ireturn, 1) := by decide +kernel
set_option maxHeartbeats 4000000 in
set_option maxRecDepth 100000 in
theorem c_X3_isOf_1 (v : Int32) (s : gS) : gMt SC yX3_isOf cX3_isOf 2 (some .boolean) 2 (fun ad => [.ref (ad 40), .int v]) s (gQi SC (fun r s' => s' = s ∧ r = if v = 1 then 1 else if v = 0 then 1 else 0)) := by
  refine gMt_of SC_ok (by decide +kernel) (fun ad => [some (.ref (ad 40)), some (.int v)]) (fun _ => rfl) (fun _ => rfl) (fun _ => Nat.le_of_ble_eq_true rfl) (fun E C0 => ?_)
  have C : gCx SC E RX3 cX3_isOf 2 (some .boolean) 2 := C0
  refine G_iload_n (i := 1) C 1 dX3_isOf_0 rfl rfl rfl ?_
  refine G_iconst (v := 1) C 2 dX3_isOf_1 rfl rfl ?_
  refine G_icmp_eq C 13 5 dX3_isOf_2 rfl rfl (fun c2 => ?_) (fun c2 => ?_)
  ·
    refine G_iconst (v := 1) C 14 dX3_isOf_13 rfl rfl ?_
    refine G_goto C 18 dX3_isOf_14 rfl ?_
    exact G_zret C rfl dX3_isOf_18 (⟨rfl, by (by_cases q0 : v = 0 <;> by_cases q1 : v = 1 <;> by_cases q2 : v = 2 <;> by_cases q3 : v = 3 <;> by_cases q4 : v = 4 <;> simp_all)⟩)
  ·
    refine G_aload_n (i := 0) C 6 dX3_isOf_5 rfl rfl rfl ?_
    refine G_iload_n (i := 1) C 7 dX3_isOf_6 rfl rfl rfl ?_
    refine G_calli 10 (G_runP C Kc_X0_isOf KP_X3_7 (by omega) (by decide) rfl rfl (c_X0_isOf 0 40 v s) rfl rfl rfl (by decide) rfl dX3_isOf_7) rfl (fun x7 s7 h7 => ?_)
    obtain ⟨es7, h7⟩ := h7
    have es7 := es7.symm
    subst es7
    refine G_if_eq C 17 13 dX3_isOf_10 rfl rfl (fun c10 => ?_) (fun c10 => ?_)
    ·
      refine G_iconst (v := 0) C 18 dX3_isOf_17 rfl rfl ?_
      exact G_zret C rfl dX3_isOf_18 (⟨rfl, by (by_cases q0 : v = 0 <;> by_cases q1 : v = 1 <;> by_cases q2 : v = 2 <;> by_cases q3 : v = 3 <;> by_cases q4 : v = 4 <;> simp_all)⟩)
    ·
      refine G_iconst (v := 1) C 14 dX3_isOf_13 rfl rfl ?_
      refine G_goto C 18 dX3_isOf_14 rfl ?_
      exact G_zret C rfl dX3_isOf_18 (⟨rfl, by (by_cases q0 : v = 0 <;> by_cases q1 : v = 1 <;> by_cases q2 : v = 2 <;> by_cases q3 : v = 3 <;> by_cases q4 : v = 4 <;> simp_all)⟩)
set_option maxHeartbeats 4000000 in
set_option maxRecDepth 100000 in
theorem c_X3_isOf_3 (v : Int32) (s : gS) : gMt SC yX3_isOf cX3_isOf 2 (some .boolean) 2 (fun ad => [.ref (ad 42), .int v]) s (gQi SC (fun r s' => s' = s ∧ r = if v = 1 then 1 else if v = 0 then 1 else 0)) := by
  refine gMt_of SC_ok (by decide +kernel) (fun ad => [some (.ref (ad 42)), some (.int v)]) (fun _ => rfl) (fun _ => rfl) (fun _ => Nat.le_of_ble_eq_true rfl) (fun E C0 => ?_)
  have C : gCx SC E RX3 cX3_isOf 2 (some .boolean) 2 := C0
  refine G_iload_n (i := 1) C 1 dX3_isOf_0 rfl rfl rfl ?_
  refine G_iconst (v := 1) C 2 dX3_isOf_1 rfl rfl ?_
  refine G_icmp_eq C 13 5 dX3_isOf_2 rfl rfl (fun c2 => ?_) (fun c2 => ?_)
  ·
    refine G_iconst (v := 1) C 14 dX3_isOf_13 rfl rfl ?_
    refine G_goto C 18 dX3_isOf_14 rfl ?_
    exact G_zret C rfl dX3_isOf_18 (⟨rfl, by (by_cases q0 : v = 0 <;> by_cases q1 : v = 1 <;> by_cases q2 : v = 2 <;> by_cases q3 : v = 3 <;> by_cases q4 : v = 4 <;> simp_all)⟩)
  ·
    refine G_aload_n (i := 0) C 6 dX3_isOf_5 rfl rfl rfl ?_
    refine G_iload_n (i := 1) C 7 dX3_isOf_6 rfl rfl rfl ?_
    refine G_calli 10 (G_runP C Kc_X0_isOf KP_X3_7 (by omega) (by decide) rfl rfl (c_X0_isOf 0 42 v s) rfl rfl rfl (by decide) rfl dX3_isOf_7) rfl (fun x7 s7 h7 => ?_)
    obtain ⟨es7, h7⟩ := h7
    have es7 := es7.symm
    subst es7
    refine G_if_eq C 17 13 dX3_isOf_10 rfl rfl (fun c10 => ?_) (fun c10 => ?_)
    ·
      refine G_iconst (v := 0) C 18 dX3_isOf_17 rfl rfl ?_
      exact G_zret C rfl dX3_isOf_18 (⟨rfl, by (by_cases q0 : v = 0 <;> by_cases q1 : v = 1 <;> by_cases q2 : v = 2 <;> by_cases q3 : v = 3 <;> by_cases q4 : v = 4 <;> simp_all)⟩)
    ·
      refine G_iconst (v := 1) C 14 dX3_isOf_13 rfl rfl ?_
      refine G_goto C 18 dX3_isOf_14 rfl ?_
      exact G_zret C rfl dX3_isOf_18 (⟨rfl, by (by_cases q0 : v = 0 <;> by_cases q1 : v = 1 <;> by_cases q2 : v = 2 <;> by_cases q3 : v = 3 <;> by_cases q4 : v = 4 <;> simp_all)⟩)
theorem dX1_isOf_0 : decode cX1_isOf 0 = .ok (.iload_n 1, 1) := by decide +kernel
theorem dX1_isOf_1 : decode cX1_isOf 1 = .ok (.iconst 2, 1) := by decide +kernel
theorem dX1_isOf_2 : decode cX1_isOf 2 = .ok (.if_icmp .eq 11, 3) := by decide +kernel
theorem dX1_isOf_5 : decode cX1_isOf 5 = .ok (.aload_n 0, 1) := by decide +kernel
theorem dX1_isOf_6 : decode cX1_isOf 6 = .ok (.iload_n 1, 1) := by decide +kernel
theorem dX1_isOf_7 : decode cX1_isOf 7 = .ok (.invokespecial 7, 3) := by decide +kernel
theorem dX1_isOf_10 : decode cX1_isOf 10 = .ok (.ifCond .eq 7, 3) := by decide +kernel
theorem dX1_isOf_13 : decode cX1_isOf 13 = .ok (.iconst 1, 1) := by decide +kernel
theorem dX1_isOf_14 : decode cX1_isOf 14 = .ok (.goto 4, 3) := by decide +kernel
theorem dX1_isOf_17 : decode cX1_isOf 17 = .ok (.iconst 0, 1) := by decide +kernel
theorem dX1_isOf_18 : decode cX1_isOf 18 = .ok (.ireturn, 1) := by decide +kernel
set_option maxHeartbeats 4000000 in
set_option maxRecDepth 100000 in
theorem c_X1_isOf_2 (v : Int32) (s : gS) : gMt SC yX1_isOf cX1_isOf 2 (some .boolean) 2 (fun ad => [.ref (ad 41), .int v]) s (gQi SC (fun r s' => s' = s ∧ r = if v = 2 then 1 else if v = 0 then 1 else 0)) := by
  refine gMt_of SC_ok (by decide +kernel) (fun ad => [some (.ref (ad 41)), some (.int v)]) (fun _ => rfl) (fun _ => rfl) (fun _ => Nat.le_of_ble_eq_true rfl) (fun E C0 => ?_)
  have C : gCx SC E RX1 cX1_isOf 2 (some .boolean) 2 := C0
  refine G_iload_n (i := 1) C 1 dX1_isOf_0 rfl rfl rfl ?_
  refine G_iconst (v := 2) C 2 dX1_isOf_1 rfl rfl ?_
  refine G_icmp_eq C 13 5 dX1_isOf_2 rfl rfl (fun c2 => ?_) (fun c2 => ?_)
  ·
    refine G_iconst (v := 1) C 14 dX1_isOf_13 rfl rfl ?_
    refine G_goto C 18 dX1_isOf_14 rfl ?_
    exact G_zret C rfl dX1_isOf_18 (⟨rfl, by (by_cases q0 : v = 0 <;> by_cases q1 : v = 1 <;> by_cases q2 : v = 2 <;> by_cases q3 : v = 3 <;> by_cases q4 : v = 4 <;> simp_all)⟩)
  ·
    refine G_aload_n (i := 0) C 6 dX1_isOf_5 rfl rfl rfl ?_
    refine G_iload_n (i := 1) C 7 dX1_isOf_6 rfl rfl rfl ?_
    refine G_calli 10 (G_runP C Kc_X0_isOf KP_X1_7 (by omega) (by decide) rfl rfl (c_X0_isOf 0 41 v s) rfl rfl rfl (by decide) rfl dX1_isOf_7) rfl (fun x7 s7 h7 => ?_)
    obtain ⟨es7, h7⟩ := h7
    have es7 := es7.symm
    subst es7
    refine G_if_eq C 17 13 dX1_isOf_10 rfl rfl (fun c10 => ?_) (fun c10 => ?_)
    ·
      refine G_iconst (v := 0) C 18 dX1_isOf_17 rfl rfl ?_
      exact G_zret C rfl dX1_isOf_18 (⟨rfl, by (by_cases q0 : v = 0 <;> by_cases q1 : v = 1 <;> by_cases q2 : v = 2 <;> by_cases q3 : v = 3 <;> by_cases q4 : v = 4 <;> simp_all)⟩)
    ·
      refine G_iconst (v := 1) C 14 dX1_isOf_13 rfl rfl ?_
      refine G_goto C 18 dX1_isOf_14 rfl ?_
      exact G_zret C rfl dX1_isOf_18 (⟨rfl, by (by_cases q0 : v = 0 <;> by_cases q1 : v = 1 <;> by_cases q2 : v = 2 <;> by_cases q3 : v = 3 <;> by_cases q4 : v = 4 <;> simp_all)⟩)
set_option maxHeartbeats 4000000 in
set_option maxRecDepth 100000 in
theorem c_X1_isOf_4 (v : Int32) (s : gS) : gMt SC yX1_isOf cX1_isOf 2 (some .boolean) 2 (fun ad => [.ref (ad 43), .int v]) s (gQi SC (fun r s' => s' = s ∧ r = if v = 2 then 1 else if v = 0 then 1 else 0)) := by
  refine gMt_of SC_ok (by decide +kernel) (fun ad => [some (.ref (ad 43)), some (.int v)]) (fun _ => rfl) (fun _ => rfl) (fun _ => Nat.le_of_ble_eq_true rfl) (fun E C0 => ?_)
  have C : gCx SC E RX1 cX1_isOf 2 (some .boolean) 2 := C0
  refine G_iload_n (i := 1) C 1 dX1_isOf_0 rfl rfl rfl ?_
  refine G_iconst (v := 2) C 2 dX1_isOf_1 rfl rfl ?_
  refine G_icmp_eq C 13 5 dX1_isOf_2 rfl rfl (fun c2 => ?_) (fun c2 => ?_)
  ·
    refine G_iconst (v := 1) C 14 dX1_isOf_13 rfl rfl ?_
    refine G_goto C 18 dX1_isOf_14 rfl ?_
    exact G_zret C rfl dX1_isOf_18 (⟨rfl, by (by_cases q0 : v = 0 <;> by_cases q1 : v = 1 <;> by_cases q2 : v = 2 <;> by_cases q3 : v = 3 <;> by_cases q4 : v = 4 <;> simp_all)⟩)
  ·
    refine G_aload_n (i := 0) C 6 dX1_isOf_5 rfl rfl rfl ?_
    refine G_iload_n (i := 1) C 7 dX1_isOf_6 rfl rfl rfl ?_
    refine G_calli 10 (G_runP C Kc_X0_isOf KP_X1_7 (by omega) (by decide) rfl rfl (c_X0_isOf 0 43 v s) rfl rfl rfl (by decide) rfl dX1_isOf_7) rfl (fun x7 s7 h7 => ?_)
    obtain ⟨es7, h7⟩ := h7
    have es7 := es7.symm
    subst es7
    refine G_if_eq C 17 13 dX1_isOf_10 rfl rfl (fun c10 => ?_) (fun c10 => ?_)
    ·
      refine G_iconst (v := 0) C 18 dX1_isOf_17 rfl rfl ?_
      exact G_zret C rfl dX1_isOf_18 (⟨rfl, by (by_cases q0 : v = 0 <;> by_cases q1 : v = 1 <;> by_cases q2 : v = 2 <;> by_cases q3 : v = 3 <;> by_cases q4 : v = 4 <;> simp_all)⟩)
    ·
      refine G_iconst (v := 1) C 14 dX1_isOf_13 rfl rfl ?_
      refine G_goto C 18 dX1_isOf_14 rfl ?_
      exact G_zret C rfl dX1_isOf_18 (⟨rfl, by (by_cases q0 : v = 0 <;> by_cases q1 : v = 1 <;> by_cases q2 : v = 2 <;> by_cases q3 : v = 3 <;> by_cases q4 : v = 4 <;> simp_all)⟩)
theorem dX5_isOf_0 : decode cX5_isOf 0 = .ok (.iload_n 1, 1) := by decide +kernel
theorem dX5_isOf_1 : decode cX5_isOf 1 = .ok (.iconst 5, 1) := by decide +kernel
theorem dX5_isOf_2 : decode cX5_isOf 2 = .ok (.if_icmp .eq 11, 3) := by decide +kernel
theorem dX5_isOf_5 : decode cX5_isOf 5 = .ok (.aload_n 0, 1) := by decide +kernel
theorem dX5_isOf_6 : decode cX5_isOf 6 = .ok (.iload_n 1, 1) := by decide +kernel
theorem dX5_isOf_7 : decode cX5_isOf 7 = .ok (.invokespecial 7, 3) := by decide +kernel
theorem dX5_isOf_10 : decode cX5_isOf 10 = .ok (.ifCond .eq 7, 3) := by decide +kernel
theorem dX5_isOf_13 : decode cX5_isOf 13 = .ok (.iconst 1, 1) := by decide +kernel
theorem dX5_isOf_14 : decode cX5_isOf 14 = .ok (.goto 4, 3) := by decide +kernel
theorem dX5_isOf_17 : decode cX5_isOf 17 = .ok (.iconst 0, 1) := by decide +kernel
theorem dX5_isOf_18 : decode cX5_isOf 18 = .ok (.ireturn, 1) := by decide +kernel
set_option maxHeartbeats 4000000 in
set_option maxRecDepth 100000 in
theorem c_X5_isOf_5 (v : Int32) (s : gS) : gMt SC yX5_isOf cX5_isOf 2 (some .boolean) 2 (fun ad => [.ref (ad 44), .int v]) s (gQi SC (fun r s' => s' = s ∧ r = if v = 5 then 1 else if v = 0 then 1 else 0)) := by
  refine gMt_of SC_ok (by decide +kernel) (fun ad => [some (.ref (ad 44)), some (.int v)]) (fun _ => rfl) (fun _ => rfl) (fun _ => Nat.le_of_ble_eq_true rfl) (fun E C0 => ?_)
  have C : gCx SC E RX5 cX5_isOf 2 (some .boolean) 2 := C0
  refine G_iload_n (i := 1) C 1 dX5_isOf_0 rfl rfl rfl ?_
  refine G_iconst (v := 5) C 2 dX5_isOf_1 rfl rfl ?_
  refine G_icmp_eq C 13 5 dX5_isOf_2 rfl rfl (fun c2 => ?_) (fun c2 => ?_)
  ·
    refine G_iconst (v := 1) C 14 dX5_isOf_13 rfl rfl ?_
    refine G_goto C 18 dX5_isOf_14 rfl ?_
    exact G_zret C rfl dX5_isOf_18 (⟨rfl, by (by_cases q0 : v = 0 <;> by_cases q1 : v = 1 <;> by_cases q2 : v = 2 <;> by_cases q3 : v = 3 <;> by_cases q4 : v = 4 <;> simp_all)⟩)
  ·
    refine G_aload_n (i := 0) C 6 dX5_isOf_5 rfl rfl rfl ?_
    refine G_iload_n (i := 1) C 7 dX5_isOf_6 rfl rfl rfl ?_
    refine G_calli 10 (G_runP C Kc_X0_isOf KP_X5_7 (by omega) (by decide) rfl rfl (c_X0_isOf 0 44 v s) rfl rfl rfl (by decide) rfl dX5_isOf_7) rfl (fun x7 s7 h7 => ?_)
    obtain ⟨es7, h7⟩ := h7
    have es7 := es7.symm
    subst es7
    refine G_if_eq C 17 13 dX5_isOf_10 rfl rfl (fun c10 => ?_) (fun c10 => ?_)
    ·
      refine G_iconst (v := 0) C 18 dX5_isOf_17 rfl rfl ?_
      exact G_zret C rfl dX5_isOf_18 (⟨rfl, by (by_cases q0 : v = 0 <;> by_cases q1 : v = 1 <;> by_cases q2 : v = 2 <;> by_cases q3 : v = 3 <;> by_cases q4 : v = 4 <;> simp_all)⟩)
    ·
      refine G_iconst (v := 1) C 14 dX5_isOf_13 rfl rfl ?_
      refine G_goto C 18 dX5_isOf_14 rfl ?_
      exact G_zret C rfl dX5_isOf_18 (⟨rfl, by (by_cases q0 : v = 0 <;> by_cases q1 : v = 1 <;> by_cases q2 : v = 2 <;> by_cases q3 : v = 3 <;> by_cases q4 : v = 4 <;> simp_all)⟩)
theorem dX8_isOf_0 : decode cX8_isOf 0 = .ok (.iload_n 1, 1) := by decide +kernel
theorem dX8_isOf_1 : decode cX8_isOf 1 = .ok (.iconst 3, 1) := by decide +kernel
theorem dX8_isOf_2 : decode cX8_isOf 2 = .ok (.if_icmp .eq 11, 3) := by decide +kernel
theorem dX8_isOf_5 : decode cX8_isOf 5 = .ok (.aload_n 0, 1) := by decide +kernel
theorem dX8_isOf_6 : decode cX8_isOf 6 = .ok (.iload_n 1, 1) := by decide +kernel
theorem dX8_isOf_7 : decode cX8_isOf 7 = .ok (.invokespecial 7, 3) := by decide +kernel
theorem dX8_isOf_10 : decode cX8_isOf 10 = .ok (.ifCond .eq 7, 3) := by decide +kernel
theorem dX8_isOf_13 : decode cX8_isOf 13 = .ok (.iconst 1, 1) := by decide +kernel
theorem dX8_isOf_14 : decode cX8_isOf 14 = .ok (.goto 4, 3) := by decide +kernel
theorem dX8_isOf_17 : decode cX8_isOf 17 = .ok (.iconst 0, 1) := by decide +kernel
theorem dX8_isOf_18 : decode cX8_isOf 18 = .ok (.ireturn, 1) := by decide +kernel
set_option maxHeartbeats 4000000 in
set_option maxRecDepth 100000 in
theorem c_X8_isOf_3 (v : Int32) (s : gS) : gMt SC yX8_isOf cX8_isOf 2 (some .boolean) 3 (fun ad => [.ref (ad 42), .int v]) s (gQi SC (fun r s' => s' = s ∧ r = if v = 3 then 1 else if v = 1 then 1 else if v = 0 then 1 else 0)) := by
  refine gMt_of SC_ok (by decide +kernel) (fun ad => [some (.ref (ad 42)), some (.int v)]) (fun _ => rfl) (fun _ => rfl) (fun _ => Nat.le_of_ble_eq_true rfl) (fun E C0 => ?_)
  have C : gCx SC E RX8 cX8_isOf 2 (some .boolean) 3 := C0
  refine G_iload_n (i := 1) C 1 dX8_isOf_0 rfl rfl rfl ?_
  refine G_iconst (v := 3) C 2 dX8_isOf_1 rfl rfl ?_
  refine G_icmp_eq C 13 5 dX8_isOf_2 rfl rfl (fun c2 => ?_) (fun c2 => ?_)
  ·
    refine G_iconst (v := 1) C 14 dX8_isOf_13 rfl rfl ?_
    refine G_goto C 18 dX8_isOf_14 rfl ?_
    exact G_zret C rfl dX8_isOf_18 (⟨rfl, by (by_cases q0 : v = 0 <;> by_cases q1 : v = 1 <;> by_cases q2 : v = 2 <;> by_cases q3 : v = 3 <;> by_cases q4 : v = 4 <;> simp_all)⟩)
  ·
    refine G_aload_n (i := 0) C 6 dX8_isOf_5 rfl rfl rfl ?_
    refine G_iload_n (i := 1) C 7 dX8_isOf_6 rfl rfl rfl ?_
    refine G_calli 10 (G_runP C Kc_X3_isOf KP_X8_7 (by omega) (by decide) rfl rfl (c_X3_isOf_3 v s) rfl rfl rfl (by decide) rfl dX8_isOf_7) rfl (fun x7 s7 h7 => ?_)
    obtain ⟨es7, h7⟩ := h7
    have es7 := es7.symm
    subst es7
    refine G_if_eq C 17 13 dX8_isOf_10 rfl rfl (fun c10 => ?_) (fun c10 => ?_)
    ·
      refine G_iconst (v := 0) C 18 dX8_isOf_17 rfl rfl ?_
      exact G_zret C rfl dX8_isOf_18 (⟨rfl, by (by_cases q0 : v = 0 <;> by_cases q1 : v = 1 <;> by_cases q2 : v = 2 <;> by_cases q3 : v = 3 <;> by_cases q4 : v = 4 <;> simp_all)⟩)
    ·
      refine G_iconst (v := 1) C 14 dX8_isOf_13 rfl rfl ?_
      refine G_goto C 18 dX8_isOf_14 rfl ?_
      exact G_zret C rfl dX8_isOf_18 (⟨rfl, by (by_cases q0 : v = 0 <;> by_cases q1 : v = 1 <;> by_cases q2 : v = 2 <;> by_cases q3 : v = 3 <;> by_cases q4 : v = 4 <;> simp_all)⟩)
theorem dX2_isOf_0 : decode cX2_isOf 0 = .ok (.iload_n 1, 1) := by decide +kernel
theorem dX2_isOf_1 : decode cX2_isOf 1 = .ok (.iconst 4, 1) := by decide +kernel
theorem dX2_isOf_2 : decode cX2_isOf 2 = .ok (.if_icmp .eq 11, 3) := by decide +kernel
theorem dX2_isOf_5 : decode cX2_isOf 5 = .ok (.aload_n 0, 1) := by decide +kernel
theorem dX2_isOf_6 : decode cX2_isOf 6 = .ok (.iload_n 1, 1) := by decide +kernel
theorem dX2_isOf_7 : decode cX2_isOf 7 = .ok (.invokespecial 7, 3) := by decide +kernel
theorem dX2_isOf_10 : decode cX2_isOf 10 = .ok (.ifCond .eq 7, 3) := by decide +kernel
theorem dX2_isOf_13 : decode cX2_isOf 13 = .ok (.iconst 1, 1) := by decide +kernel
theorem dX2_isOf_14 : decode cX2_isOf 14 = .ok (.goto 4, 3) := by decide +kernel
theorem dX2_isOf_17 : decode cX2_isOf 17 = .ok (.iconst 0, 1) := by decide +kernel
theorem dX2_isOf_18 : decode cX2_isOf 18 = .ok (.ireturn, 1) := by decide +kernel
set_option maxHeartbeats 4000000 in
set_option maxRecDepth 100000 in
theorem c_X2_isOf_4 (v : Int32) (s : gS) : gMt SC yX2_isOf cX2_isOf 2 (some .boolean) 3 (fun ad => [.ref (ad 43), .int v]) s (gQi SC (fun r s' => s' = s ∧ r = if v = 4 then 1 else if v = 2 then 1 else if v = 0 then 1 else 0)) := by
  refine gMt_of SC_ok (by decide +kernel) (fun ad => [some (.ref (ad 43)), some (.int v)]) (fun _ => rfl) (fun _ => rfl) (fun _ => Nat.le_of_ble_eq_true rfl) (fun E C0 => ?_)
  have C : gCx SC E RX2 cX2_isOf 2 (some .boolean) 3 := C0
  refine G_iload_n (i := 1) C 1 dX2_isOf_0 rfl rfl rfl ?_
  refine G_iconst (v := 4) C 2 dX2_isOf_1 rfl rfl ?_
  refine G_icmp_eq C 13 5 dX2_isOf_2 rfl rfl (fun c2 => ?_) (fun c2 => ?_)
  ·
    refine G_iconst (v := 1) C 14 dX2_isOf_13 rfl rfl ?_
    refine G_goto C 18 dX2_isOf_14 rfl ?_
    exact G_zret C rfl dX2_isOf_18 (⟨rfl, by (by_cases q0 : v = 0 <;> by_cases q1 : v = 1 <;> by_cases q2 : v = 2 <;> by_cases q3 : v = 3 <;> by_cases q4 : v = 4 <;> simp_all)⟩)
  ·
    refine G_aload_n (i := 0) C 6 dX2_isOf_5 rfl rfl rfl ?_
    refine G_iload_n (i := 1) C 7 dX2_isOf_6 rfl rfl rfl ?_
    refine G_calli 10 (G_runP C Kc_X1_isOf KP_X2_7 (by omega) (by decide) rfl rfl (c_X1_isOf_4 v s) rfl rfl rfl (by decide) rfl dX2_isOf_7) rfl (fun x7 s7 h7 => ?_)
    obtain ⟨es7, h7⟩ := h7
    have es7 := es7.symm
    subst es7
    refine G_if_eq C 17 13 dX2_isOf_10 rfl rfl (fun c10 => ?_) (fun c10 => ?_)
    ·
      refine G_iconst (v := 0) C 18 dX2_isOf_17 rfl rfl ?_
      exact G_zret C rfl dX2_isOf_18 (⟨rfl, by (by_cases q0 : v = 0 <;> by_cases q1 : v = 1 <;> by_cases q2 : v = 2 <;> by_cases q3 : v = 3 <;> by_cases q4 : v = 4 <;> simp_all)⟩)
    ·
      refine G_iconst (v := 1) C 14 dX2_isOf_13 rfl rfl ?_
      refine G_goto C 18 dX2_isOf_14 rfl ?_
      exact G_zret C rfl dX2_isOf_18 (⟨rfl, by (by_cases q0 : v = 0 <;> by_cases q1 : v = 1 <;> by_cases q2 : v = 2 <;> by_cases q3 : v = 3 <;> by_cases q4 : v = 4 <;> simp_all)⟩)
theorem D_X9_96 {E : gE} {cc : ByteArray} {nL : Nat} {ret : Option FieldType} {d : Nat} {pc : Nat} {L : List (Option Value)} {rest : List Value} {σ : gS} (C : gCx SC E RX9 cc nL ret d) (h3 : 3 < d) (kd : Nat) (hkd : kd < 6) (u m h : Int32) (hu : u = 0 ∨ u = 1) (hW : (rest.map fun v => v.category).sum ≤ 8) (hL : L.length = nL) (hd : decode cc pc = .ok (.invokevirtual 96, 3)) : gRun SC E pc L (.int h :: .int m :: .int u :: .ref (e_ad E (39 + kd)) :: rest) rest σ (gQi SC (fun r s' => s' = σ ∧ r = x_hears (nI kd) u m h) (e_D E) (e_cA E) (e_ad E) #[.ref (e_ad E (39 + kd)), .int u, .int m, .int h]) := by
  have h : kd = 0 ∨ kd = 1 ∨ kd = 2 ∨ kd = 3 ∨ kd = 4 ∨ kd = 5 := by omega
  rcases h with rfl | rfl | rfl | rfl | rfl | rfl
  · refine gRun_mono (G_runU C Kc_X0_hears KU_X9_96_0 (by omega) (by decide) (eCit _ _ _ (t := 0) (by decide)) rfl (c_X0_hears 39 u m h hu σ) rfl rfl rfl hW hL hd) (fun r s' h => ⟨h.1, h.2.trans ?_⟩)
    rcases hu with rfl | rfl <;> (simp [x_hears, nI]; done)
  · refine gRun_mono (G_runU C Kc_X0_hears KU_X9_96_1 (by omega) (by decide) (eCit _ _ _ (t := 1) (by decide)) rfl (c_X0_hears 40 u m h hu σ) rfl rfl rfl hW hL hd) (fun r s' h => ⟨h.1, h.2.trans ?_⟩)
    rcases hu with rfl | rfl <;> (simp [x_hears, nI]; done)
  · refine gRun_mono (G_runO C Kc_X1_hears KO_X9_96_2 (by omega) (by decide) (eCit _ _ _ (t := 2) (by decide)) rfl (c_X1_hears 41 u m h hu σ) rfl rfl rfl hW hL hd) (fun r s' h => ⟨h.1, h.2.trans ?_⟩)
    rcases hu with rfl | rfl <;> (simp [x_hears, nI]; done)
  · refine gRun_mono (G_runO C Kc_X8_hears KO_X9_96_3 (by omega) (by decide) (eCit _ _ _ (t := 3) (by decide)) rfl (c_X8_hears 42 u m h hu σ) rfl rfl rfl hW hL hd) (fun r s' h => ⟨h.1, h.2.trans ?_⟩)
    rcases hu with rfl | rfl <;> (simp [x_hears, nI]; done)
  · refine gRun_mono (G_runO C Kc_X1_hears KO_X9_96_4 (by omega) (by decide) (eCit _ _ _ (t := 4) (by decide)) rfl (c_X1_hears 43 u m h hu σ) rfl rfl rfl hW hL hd) (fun r s' h => ⟨h.1, h.2.trans ?_⟩)
    rcases hu with rfl | rfl <;> (simp [x_hears, nI]; done)
  · refine gRun_mono (G_runU C Kc_X0_hears KU_X9_96_5 (by omega) (by decide) (eCit _ _ _ (t := 5) (by decide)) rfl (c_X0_hears 44 u m h hu σ) rfl rfl rfl hW hL hd) (fun r s' h => ⟨h.1, h.2.trans ?_⟩)
    rcases hu with rfl | rfl <;> (simp [x_hears, nI]; done)
theorem D_X9_90 {E : gE} {cc : ByteArray} {nL : Nat} {ret : Option FieldType} {d : Nat} {pc : Nat} {L : List (Option Value)} {rest : List Value} {σ : gS} (C : gCx SC E RX9 cc nL ret d) (h3 : 3 < d) (kd : Nat) (hkd : kd < 6) (a cu dr mo ho : Int32) (hu : a = 0 ∨ a = 1) (hW : (rest.map fun v => v.category).sum ≤ 8) (hL : L.length = nL) (hd : decode cc pc = .ok (.invokevirtual 90, 3)) : gRun SC E pc L (.int ho :: .int mo :: .int dr :: .int cu :: .int a :: .ref (e_ad E (39 + kd)) :: rest) rest σ (gQi SC (fun r s' => s' = σ ∧ r = x_kw (nI kd) a cu dr mo ho) (e_D E) (e_cA E) (e_ad E) #[.ref (e_ad E (39 + kd)), .int a, .int cu, .int dr, .int mo, .int ho]) := by
  have h : kd = 0 ∨ kd = 1 ∨ kd = 2 ∨ kd = 3 ∨ kd = 4 ∨ kd = 5 := by omega
  rcases h with rfl | rfl | rfl | rfl | rfl | rfl
  · refine gRun_mono (G_runU C Kc_X0_wishes KU_X9_90_0 (by omega) (by decide) (eCit _ _ _ (t := 0) (by decide)) rfl (c_X0_wishes 0 39 a cu dr mo ho hu σ) rfl rfl rfl hW hL hd) (fun r s' h => ⟨h.1, h.2.trans ?_⟩)
    simp [x_kw, nI]
  · refine gRun_mono (G_runO C Kc_X3_wishes KO_X9_90_1 (by omega) (by decide) (eCit _ _ _ (t := 1) (by decide)) rfl (c_X3_wishes 0 40 a cu dr mo ho hu σ) rfl rfl rfl hW hL hd) (fun r s' h => ⟨h.1, h.2.trans ?_⟩)
    simp [x_kw, nI]
  · refine gRun_mono (G_runU C Kc_X0_wishes KU_X9_90_2 (by omega) (by decide) (eCit _ _ _ (t := 2) (by decide)) rfl (c_X0_wishes 0 41 a cu dr mo ho hu σ) rfl rfl rfl hW hL hd) (fun r s' h => ⟨h.1, h.2.trans ?_⟩)
    simp [x_kw, nI]
  · refine gRun_mono (G_runO C Kc_X8_wishes KO_X9_90_3 (by omega) (by decide) (eCit _ _ _ (t := 3) (by decide)) rfl (c_X8_wishes a cu dr mo ho hu σ) rfl rfl rfl hW hL hd) (fun r s' h => ⟨h.1, h.2.trans ?_⟩)
    simp [x_kw, nI]
  · refine gRun_mono (G_runO C Kc_X2_wishes KO_X9_90_4 (by omega) (by decide) (eCit _ _ _ (t := 4) (by decide)) rfl (c_X2_wishes a cu dr mo ho hu σ) rfl rfl rfl hW hL hd) (fun r s' h => ⟨h.1, h.2.trans ?_⟩)
    simp [x_kw, nI]
  · refine gRun_mono (G_runO C Kc_X5_wishes KO_X9_90_5 (by omega) (by decide) (eCit _ _ _ (t := 5) (by decide)) rfl (c_X5_wishes 0 44 a cu dr mo ho hu σ) rfl rfl rfl hW hL hd) (fun r s' h => ⟨h.1, h.2.trans ?_⟩)
    simp [x_kw, nI]
theorem D_X9_104 {E : gE} {cc : ByteArray} {nL : Nat} {ret : Option FieldType} {d : Nat} {pc : Nat} {L : List (Option Value)} {rest : List Value} {σ : gS} (C : gCx SC E RX9 cc nL ret d) (h3 : 3 < d) (kd : Nat) (hkd : kd < 6) (v m : Int32)  (hW : (rest.map fun v => v.category).sum ≤ 8) (hL : L.length = nL) (hd : decode cc pc = .ok (.invokevirtual 104, 3)) : gRun SC E pc L (.int m :: .int v :: .ref (e_ad E (39 + kd)) :: rest) rest σ (gQi SC (fun r s' => s' = σ ∧ r = x_kg (nI kd) v m) (e_D E) (e_cA E) (e_ad E) #[.ref (e_ad E (39 + kd)), .int v, .int m]) := by
  have h : kd = 0 ∨ kd = 1 ∨ kd = 2 ∨ kd = 3 ∨ kd = 4 ∨ kd = 5 := by omega
  rcases h with rfl | rfl | rfl | rfl | rfl | rfl
  · refine gRun_mono (G_runU C Kc_X0_goesOn KU_X9_104_0 (by omega) (by decide) (eCit _ _ _ (t := 0) (by decide)) rfl (c_X0_goesOn 0 39 v m σ) rfl rfl rfl hW hL hd) (fun r s' h => ⟨h.1, h.2.trans ?_⟩)
    simp [x_kg, nI]
  · refine gRun_mono (G_runO C Kc_X3_goesOn KO_X9_104_1 (by omega) (by decide) (eCit _ _ _ (t := 1) (by decide)) rfl (c_X3_goesOn 0 40 v m σ) rfl rfl rfl hW hL hd) (fun r s' h => ⟨h.1, h.2.trans ?_⟩)
    simp [x_kg, nI]
  · refine gRun_mono (G_runO C Kc_X1_goesOn KO_X9_104_2 (by omega) (by decide) (eCit _ _ _ (t := 2) (by decide)) rfl (c_X1_goesOn 0 41 v m σ) rfl rfl rfl hW hL hd) (fun r s' h => ⟨h.1, h.2.trans ?_⟩)
    simp [x_kg, nI]
  · refine gRun_mono (G_runO C Kc_X3_goesOn KO_X9_104_3 (by omega) (by decide) (eCit _ _ _ (t := 3) (by decide)) rfl (c_X3_goesOn 0 42 v m σ) rfl rfl rfl hW hL hd) (fun r s' h => ⟨h.1, h.2.trans ?_⟩)
    simp [x_kg, nI]
  · refine gRun_mono (G_runO C Kc_X2_goesOn KO_X9_104_4 (by omega) (by decide) (eCit _ _ _ (t := 4) (by decide)) rfl (c_X2_goesOn v m σ) rfl rfl rfl hW hL hd) (fun r s' h => ⟨h.1, h.2.trans ?_⟩)
    simp [x_kg, nI]
  · refine gRun_mono (G_runO C Kc_X5_goesOn KO_X9_104_5 (by omega) (by decide) (eCit _ _ _ (t := 5) (by decide)) rfl (c_X5_goesOn 0 44 v m σ) rfl rfl rfl hW hL hd) (fun r s' h => ⟨h.1, h.2.trans ?_⟩)
    simp [x_kg, nI]
theorem D_X10_262 {E : gE} {cc : ByteArray} {nL : Nat} {ret : Option FieldType} {d : Nat} {pc : Nat} {L : List (Option Value)} {rest : List Value} {σ : gS} (C : gCx SC E RX10 cc nL ret d) (h3 : 3 < d) (kd : Nat) (hkd : kd < 6) (v : Int32)  (hW : (rest.map fun v => v.category).sum ≤ 8) (hL : L.length = nL) (hd : decode cc pc = .ok (.invokevirtual 262, 3)) : gRun SC E pc L (.int v :: .ref (e_ad E (39 + kd)) :: rest) rest σ (gQi SC (fun r s' => s' = σ ∧ r = x_isOf (nI kd) v) (e_D E) (e_cA E) (e_ad E) #[.ref (e_ad E (39 + kd)), .int v]) := by
  have h : kd = 0 ∨ kd = 1 ∨ kd = 2 ∨ kd = 3 ∨ kd = 4 ∨ kd = 5 := by omega
  rcases h with rfl | rfl | rfl | rfl | rfl | rfl
  · refine gRun_mono (G_runU C Kc_X0_isOf KU_X10_262_0 (by omega) (by decide) (eCit _ _ _ (t := 0) (by decide)) rfl (c_X0_isOf 0 39 v σ) rfl rfl rfl hW hL hd) (fun r s' h => ⟨h.1, h.2.trans ?_⟩)
    (unfold x_isOf; by_cases q0 : v = 0 <;> by_cases q1 : v = 1 <;> by_cases q2 : v = 2 <;> by_cases q3 : v = 3 <;> by_cases q4 : v = 4 <;> by_cases q5 : v = 5 <;> simp_all [nI])
  · refine gRun_mono (G_runO C Kc_X3_isOf KO_X10_262_1 (by omega) (by decide) (eCit _ _ _ (t := 1) (by decide)) rfl (c_X3_isOf_1 v σ) rfl rfl rfl hW hL hd) (fun r s' h => ⟨h.1, h.2.trans ?_⟩)
    (unfold x_isOf; by_cases q0 : v = 0 <;> by_cases q1 : v = 1 <;> by_cases q2 : v = 2 <;> by_cases q3 : v = 3 <;> by_cases q4 : v = 4 <;> by_cases q5 : v = 5 <;> simp_all [nI])
  · refine gRun_mono (G_runO C Kc_X1_isOf KO_X10_262_2 (by omega) (by decide) (eCit _ _ _ (t := 2) (by decide)) rfl (c_X1_isOf_2 v σ) rfl rfl rfl hW hL hd) (fun r s' h => ⟨h.1, h.2.trans ?_⟩)
    (unfold x_isOf; by_cases q0 : v = 0 <;> by_cases q1 : v = 1 <;> by_cases q2 : v = 2 <;> by_cases q3 : v = 3 <;> by_cases q4 : v = 4 <;> by_cases q5 : v = 5 <;> simp_all [nI])
  · refine gRun_mono (G_runO C Kc_X8_isOf KO_X10_262_3 (by omega) (by decide) (eCit _ _ _ (t := 3) (by decide)) rfl (c_X8_isOf_3 v σ) rfl rfl rfl hW hL hd) (fun r s' h => ⟨h.1, h.2.trans ?_⟩)
    (unfold x_isOf; by_cases q0 : v = 0 <;> by_cases q1 : v = 1 <;> by_cases q2 : v = 2 <;> by_cases q3 : v = 3 <;> by_cases q4 : v = 4 <;> by_cases q5 : v = 5 <;> simp_all [nI])
  · refine gRun_mono (G_runO C Kc_X2_isOf KO_X10_262_4 (by omega) (by decide) (eCit _ _ _ (t := 4) (by decide)) rfl (c_X2_isOf_4 v σ) rfl rfl rfl hW hL hd) (fun r s' h => ⟨h.1, h.2.trans ?_⟩)
    (unfold x_isOf; by_cases q0 : v = 0 <;> by_cases q1 : v = 1 <;> by_cases q2 : v = 2 <;> by_cases q3 : v = 3 <;> by_cases q4 : v = 4 <;> by_cases q5 : v = 5 <;> simp_all [nI])
  · refine gRun_mono (G_runO C Kc_X5_isOf KO_X10_262_5 (by omega) (by decide) (eCit _ _ _ (t := 5) (by decide)) rfl (c_X5_isOf_5 v σ) rfl rfl rfl hW hL hd) (fun r s' h => ⟨h.1, h.2.trans ?_⟩)
    (unfold x_isOf; by_cases q0 : v = 0 <;> by_cases q1 : v = 1 <;> by_cases q2 : v = 2 <;> by_cases q3 : v = 3 <;> by_cases q4 : v = 4 <;> by_cases q5 : v = 5 <;> simp_all [nI])
