theorem dX11_opensOne_0 : decode cX11_opensOne 0 = .ok (.aload_n 0, 1) := by decide +kernel
theorem dX11_opensOne_1 : decode cX11_opensOne 1 = .ok (.getfield 124, 3) := by decide +kernel
theorem dX11_opensOne_4 : decode cX11_opensOne 4 = .ok (.iconst 5, 1) := by decide +kernel
theorem dX11_opensOne_5 : decode cX11_opensOne 5 = .ok (.if_icmp .ne 5, 3) := by decide +kernel
theorem dX11_opensOne_8 : decode cX11_opensOne 8 = .ok (.iconst 0, 1) := by decide +kernel
theorem dX11_opensOne_9 : decode cX11_opensOne 9 = .ok (.ireturn, 1) := by decide +kernel
theorem dX11_opensOne_10 : decode cX11_opensOne 10 = .ok (.aload_n 0, 1) := by decide +kernel
theorem dX11_opensOne_11 : decode cX11_opensOne 11 = .ok (.dup, 1) := by decide +kernel
theorem dX11_opensOne_12 : decode cX11_opensOne 12 = .ok (.getfield 124, 3) := by decide +kernel
theorem dX11_opensOne_15 : decode cX11_opensOne 15 = .ok (.iconst 1, 1) := by decide +kernel
theorem dX11_opensOne_16 : decode cX11_opensOne 16 = .ok (.iadd, 1) := by decide +kernel
theorem dX11_opensOne_17 : decode cX11_opensOne 17 = .ok (.putfield 124, 3) := by decide +kernel
theorem dX11_opensOne_20 : decode cX11_opensOne 20 = .ok (.aload_n 0, 1) := by decide +kernel
theorem dX11_opensOne_21 : decode cX11_opensOne 21 = .ok (.iload_n 1, 1) := by decide +kernel
theorem dX11_opensOne_22 : decode cX11_opensOne 22 = .ok (.invokevirtual 131, 3) := by decide +kernel
theorem dX11_opensOne_25 : decode cX11_opensOne 25 = .ok (.iconst 1, 1) := by decide +kernel
theorem dX11_opensOne_26 : decode cX11_opensOne 26 = .ok (.ireturn, 1) := by decide +kernel
set_option maxHeartbeats 4000000 in
set_option maxRecDepth 100000 in
theorem c_X11_opensOne (d : Nat) (s : gS) (t z0 c : Nat) (h cs : List Nat) (hS : t_S s t z0 h cs) (hb : h.length < 200) (hop : t_op (c :: h) = t_op h + 1) (ho5 : t_op h ≤ 200) (x : Int32) (hx : x = nI c) : gMt SM yX11_opensOne cX11_opensOne 2 (some .boolean) (d + 2) (fun ad => [.ref (ad 0), .int x]) s (gQi SM (fun r s' => (t_op h = 5 → r = 0 ∧ s' = s) ∧ (¬ t_op h = 5 → r = 1 ∧ t_S s' t z0 (c :: h) cs ∧ t_F t z0 s s'))) := by
  refine gMt_of SM_ok (by decide +kernel) (fun ad => [some (.ref (ad 0)), some (.int x)]) (fun _ => rfl) (fun _ => rfl) (fun _ => Nat.le_of_ble_eq_true rfl) (fun E C0 => ?_)
  have C : gCx SM E RX11 cX11_opensOne 2 (some .boolean) (d + 2) := C0
  refine G_aload_n (i := 0) C 1 dX11_opensOne_0 rfl rfl rfl ?_
  refine X11_124g C 4 dX11_opensOne_1 rfl (fun x1 ex1 => ?_)
  have Sx1 : x1 = nI (t_op h) := ex1.trans (hS.2.2.1)
  refine G_iconst (v := 5) C 5 dX11_opensOne_4 rfl rfl ?_
  refine G_icmp_ne C 10 8 dX11_opensOne_5 rfl rfl (fun c5 => ?_) (fun c5 => ?_)
  ·
    have n5 : ¬ (t_op h) = 5 := fun hq_ => c5 ((g_eqN (a := (t_op h)) (b := 5) (hx := Sx1) (hy := rfl) (by omega) (by omega)).mpr hq_)
    refine G_aload_n (i := 0) C 11 dX11_opensOne_10 rfl rfl rfl ?_
    refine G_dup C 12 dX11_opensOne_11 rfl rfl ?_
    refine X11_124g C 15 dX11_opensOne_12 rfl (fun x12 ex12 => ?_)
    have Sx12 : x12 = nI (t_op h) := ex12.trans (hS.2.2.1)
    refine G_iconst (v := 1) C 16 dX11_opensOne_15 rfl rfl ?_
    refine G_iadd C 17 dX11_opensOne_16 rfl (fun x16 ex16 => ?_)
    have Nx16 : x16 = nI ((t_op h) + 1) := g_addN ex16 Sx12 rfl
    refine X11_124p C 20 dX11_opensOne_17 rfl (fun s17 es17 => ?_)
    refine G_aload_n (i := 0) C 21 dX11_opensOne_20 rfl rfl rfl ?_
    refine G_iload_n (i := 1) C 22 dX11_opensOne_21 rfl rfl rfl ?_
    refine G_callv 25 (G_runV C Kc_X11_holds KV_X11_131 (by omega) (by decide) (eM _ _ _) rfl (c_X11_holds 0 s17 h.length (by rw [es17, g_up_sj, if_neg (by decide)]; exact hS.2.1) (by omega) x) rfl rfl rfl (Nat.le_of_ble_eq_true rfl) rfl dX11_opensOne_22) rfl (fun s22 h22 => ?_)
    refine G_iconst (v := 1) C 26 dX11_opensOne_25 rfl rfl ?_
    exact G_zret C rfl dX11_opensOne_26 (⟨fun z => absurd z n5, fun _ => ⟨rfl, t_S_hold (a := s17) (h := h) (cs := cs) ⟨by rw [es17, g_up_sj, if_neg (by decide)]; exact hS.1, by rw [es17, g_up_sj, if_neg (by decide)]; exact hS.2.2.2.1, by rw [es17, g_up_n (by decide)]; exact hS.2.2.2.2.1, fun i q hq => by rw [es17, g_up_n (by decide)]; exact hS.2.2.2.2.2 i q hq⟩ (by rw [es17, g_up_sj, if_pos rfl, hop]; exact Nx16) (by rw [← hx]; exact h22), t_F.tr (t_F.up0 es17 (by decide)) (t_F.hold h22)⟩⟩)
  ·
    have n5 : (t_op h) = 5 := (g_eqN (a := (t_op h)) (b := 5) (hx := Sx1) (hy := rfl) (by omega) (by omega)).mp c5
    refine G_iconst (v := 0) C 9 dX11_opensOne_8 rfl rfl ?_
    exact G_zret C rfl dX11_opensOne_9 (⟨fun _ => ⟨rfl, rfl⟩, fun z => absurd n5 z⟩)
theorem t_opB {c : Nat} (h : t_isB c) (l : List Nat) : t_op (c :: l) = t_op l := by
  unfold t_isB at h
  exact t_op_n l (by omega) (by omega) (by omega)
theorem t_rkB {c : Nat} (h : t_isB c) : 1 ≤ t_rk c := by
  unfold t_isB at h
  rcases h with rfl | rfl | rfl | rfl | rfl | rfl | rfl <;> decide
theorem dX11_between_0 : decode cX11_between 0 = .ok (.aload_n 0, 1) := by decide +kernel
theorem dX11_between_1 : decode cX11_between 1 = .ok (.iload_n 1, 1) := by decide +kernel
theorem dX11_between_2 : decode cX11_between 2 = .ok (.invokestatic 121, 3) := by decide +kernel
theorem dX11_between_5 : decode cX11_between 5 = .ok (.iconst 4, 1) := by decide +kernel
theorem dX11_between_6 : decode cX11_between 6 = .ok (.if_icmp .ne 7, 3) := by decide +kernel
theorem dX11_between_9 : decode cX11_between 9 = .ok (.iconst 5, 1) := by decide +kernel
theorem dX11_between_10 : decode cX11_between 10 = .ok (.goto 7, 3) := by decide +kernel
theorem dX11_between_13 : decode cX11_between 13 = .ok (.iload_n 1, 1) := by decide +kernel
theorem dX11_between_14 : decode cX11_between 14 = .ok (.invokestatic 121, 3) := by decide +kernel
theorem dX11_between_17 : decode cX11_between 17 = .ok (.invokevirtual 134, 3) := by decide +kernel
theorem dX11_between_20 : decode cX11_between 20 = .ok (.iload_n 1, 1) := by decide +kernel
theorem dX11_between_21 : decode cX11_between 21 = .ok (.invokestatic 121, 3) := by decide +kernel
theorem dX11_between_24 : decode cX11_between 24 = .ok (.iconst 4, 1) := by decide +kernel
theorem dX11_between_25 : decode cX11_between 25 = .ok (.if_icmp .ne 30, 3) := by decide +kernel
theorem dX11_between_28 : decode cX11_between 28 = .ok (.aload_n 0, 1) := by decide +kernel
theorem dX11_between_29 : decode cX11_between 29 = .ok (.getfield 118, 3) := by decide +kernel
theorem dX11_between_32 : decode cX11_between 32 = .ok (.ifCond .le 23, 3) := by decide +kernel
theorem dX11_between_35 : decode cX11_between 35 = .ok (.aload_n 0, 1) := by decide +kernel
theorem dX11_between_36 : decode cX11_between 36 = .ok (.getfield 52, 3) := by decide +kernel
theorem dX11_between_39 : decode cX11_between 39 = .ok (.aload_n 0, 1) := by decide +kernel
theorem dX11_between_40 : decode cX11_between 40 = .ok (.getfield 118, 3) := by decide +kernel
theorem dX11_between_43 : decode cX11_between 43 = .ok (.iconst 1, 1) := by decide +kernel
theorem dX11_between_44 : decode cX11_between 44 = .ok (.isub, 1) := by decide +kernel
theorem dX11_between_45 : decode cX11_between 45 = .ok (.iaload, 1) := by decide +kernel
theorem dX11_between_46 : decode cX11_between 46 = .ok (.invokestatic 121, 3) := by decide +kernel
theorem dX11_between_49 : decode cX11_between 49 = .ok (.iconst 4, 1) := by decide +kernel
theorem dX11_between_50 : decode cX11_between 50 = .ok (.if_icmp .ne 5, 3) := by decide +kernel
theorem dX11_between_53 : decode cX11_between 53 = .ok (.iconst 0, 1) := by decide +kernel
theorem dX11_between_54 : decode cX11_between 54 = .ok (.ireturn, 1) := by decide +kernel
theorem dX11_between_55 : decode cX11_between 55 = .ok (.aload_n 0, 1) := by decide +kernel
theorem dX11_between_56 : decode cX11_between 56 = .ok (.iload_n 1, 1) := by decide +kernel
theorem dX11_between_57 : decode cX11_between 57 = .ok (.invokevirtual 131, 3) := by decide +kernel
theorem dX11_between_60 : decode cX11_between 60 = .ok (.iconst 1, 1) := by decide +kernel
theorem dX11_between_61 : decode cX11_between 61 = .ok (.ireturn, 1) := by decide +kernel
set_option maxHeartbeats 4000000 in
set_option maxRecDepth 100000 in
theorem c_X11_between (d : Nat) (s : gS) (t z0 c : Nat) (h cs : List Nat) (hS : t_S s t z0 h cs) (ht6 : t < 6) (hb : z0 + (h.length + cs.length) ≤ 160) (hm : ∀ c, c ∈ h → c < 20) (hcB : t_isB c) (x : Int32) (hx : x = nI c) : gMt SM yX11_between cX11_between 2 (some .boolean) (d + 3) (fun ad => [.ref (ad 0), .int x]) s (gQi SM (fun r s' => ((t_rk c = 4 ∧ t_top (t_u (if t_rk c = 4 then 5 else t_rk c) h cs).1 = 4) → r = 0) ∧ (¬ (t_rk c = 4 ∧ t_top (t_u (if t_rk c = 4 then 5 else t_rk c) h cs).1 = 4) → r = 1 ∧ t_S s' t z0 (c :: (t_u (if t_rk c = 4 then 5 else t_rk c) h cs).1) (t_u (if t_rk c = 4 then 5 else t_rk c) h cs).2) ∧ t_F t z0 s s')) := by
  have hc20 : c < 20 := by unfold t_isB at hcB; omega
  have hr1 := t_rkB hcB
  have hop := t_opB hcB
  have hrk9 := t_rk9 c
  refine gMt_of SM_ok (by decide +kernel) (fun ad => [some (.ref (ad 0)), some (.int x)]) (fun _ => rfl) (fun _ => rfl) (fun _ => Nat.le_of_ble_eq_true rfl) (fun E C0 => ?_)
  have C : gCx SM E RX11 cX11_between 2 (some .boolean) (d + 3) := C0
  refine G_aload_n (i := 0) C 1 dX11_between_0 rfl rfl rfl ?_
  refine G_iload_n (i := 1) C 2 dX11_between_1 rfl rfl rfl ?_
  refine G_calli 5 (G_runS C Kc_X11_rank KS_X11_121 (by omega) (c_X11_rank 0 c x hx hc20 s) rfl rfl (Nat.le_of_ble_eq_true rfl) rfl dX11_between_2) rfl (fun x2 s2 h2 => ?_)
  obtain ⟨es2, h2⟩ := h2
  have es2 := es2.symm
  subst es2
  refine G_iconst (v := 4) C 6 dX11_between_5 rfl rfl ?_
  refine G_icmp_ne C 13 9 dX11_between_6 rfl rfl (fun c6 => ?_) (fun c6 => ?_)
  ·
    have n6 : ¬ (t_rk c) = 4 := fun hq_ => c6 ((g_eqN (a := (t_rk c)) (b := 4) (hx := h2) (hy := rfl) (by omega) (by omega)).mpr hq_)
    have k6 := g_neT h2 c6
    refine G_iload_n (i := 1) C 14 dX11_between_13 rfl rfl rfl ?_
    refine G_calli 17 (G_runS C Kc_X11_rank KS_X11_121 (by omega) (c_X11_rank 0 c x hx hc20 s) rfl rfl (Nat.le_of_ble_eq_true rfl) rfl dX11_between_14) rfl (fun x14 s14 h14 => ?_)
    obtain ⟨es14, h14⟩ := h14
    have es14 := es14.symm
    subst es14
    have hB : (if t_rk c = 4 then 5 else t_rk c) = t_rk c := if_neg n6
    refine G_callv 20 (G_runV C Kc_X11_unwinds KV_X11_134 (by omega) (by decide) (eM _ _ _) rfl (c_X11_unwinds 0 s t z0 (t_rk c) h cs hS ht6 hb hm x14 h14 (by omega) (by have := t_rk9 c; omega)) rfl rfl rfl (Nat.le_of_ble_eq_true rfl) rfl dX11_between_17) rfl (fun s17 h17 => ?_)
    rw [← hB] at h17
    obtain ⟨hS2, hF2⟩ := h17
    have hlen := t_u_len (if t_rk c = 4 then 5 else t_rk c) h cs
    have hm2 : ∀ q, q ∈ (t_u (if t_rk c = 4 then 5 else t_rk c) h cs).1 → q < 20 := fun q hq => hm q (t_u_mem _ _ _ _ hq)
    generalize t_u (if t_rk c = 4 then 5 else t_rk c) h cs = U at hS2 hlen hm2
    obtain ⟨h1, cs1⟩ := U
    simp only at hS2 hlen hm2
    refine G_iload_n (i := 1) C 21 dX11_between_20 rfl rfl rfl ?_
    refine G_calli 24 (G_runS C Kc_X11_rank KS_X11_121 (by omega) (c_X11_rank 0 c x hx hc20 s17) rfl rfl (Nat.le_of_ble_eq_true rfl) rfl dX11_between_21) rfl (fun x21 s21 h21 => ?_)
    obtain ⟨es21, h21⟩ := h21
    have es21 := es21.symm
    subst es21
    refine G_iconst (v := 4) C 25 dX11_between_24 rfl rfl ?_
    refine G_icmp_ne C 55 28 dX11_between_25 rfl rfl (fun c25 => ?_) (fun c25 => ?_)
    ·
      have n25 : ¬ (t_rk c) = 4 := fun hq_ => c25 ((g_eqN (a := (t_rk c)) (b := 4) (hx := h21) (hy := rfl) (by omega) (by omega)).mpr hq_)
      have k25 := g_neT h21 c25
      refine G_aload_n (i := 0) C 56 dX11_between_55 rfl rfl rfl ?_
      refine G_iload_n (i := 1) C 57 dX11_between_56 rfl rfl rfl ?_
      refine G_callv 60 (G_runV C Kc_X11_holds KV_X11_131 (by omega) (by decide) (eM _ _ _) rfl (c_X11_holds 0 s17 h1.length hS2.2.1 (by omega) x) rfl rfl rfl (Nat.le_of_ble_eq_true rfl) rfl dX11_between_57) rfl (fun s57 h57 => ?_)
      refine G_iconst (v := 1) C 61 dX11_between_60 rfl rfl ?_
      have hno : ¬ (t_rk c = 4 ∧ t_top h1 = 4) := fun z => n25 z.1
      exact G_zret C rfl dX11_between_61 (⟨fun z => absurd z hno, fun _ => ⟨rfl, t_S_hold (h := h1) ⟨hS2.1, hS2.2.2.2.1, hS2.2.2.2.2.1, hS2.2.2.2.2.2⟩ (by rw [hop h1]; exact hS2.2.2.1) (by rw [← hx]; exact h57)⟩, t_F.tr hF2 (t_F.hold h57)⟩)
    ·
      have n25 : (t_rk c) = 4 := (g_eqN (a := (t_rk c)) (b := 4) (hx := h21) (hy := rfl) (by omega) (by omega)).mp c25
      have k25 := h21.symm.trans c25
      refine G_aload_n (i := 0) C 29 dX11_between_28 rfl rfl rfl ?_
      refine X11_118g C 32 dX11_between_29 rfl (fun x29 ex29 => ?_)
      have Sx29 : x29 = nI (h1.length) := ex29.trans (hS2.2.1)
      refine G_if_le C 55 35 dX11_between_32 rfl rfl (fun c32 => ?_) (fun c32 => ?_)
      ·
        have n32 : ¬ 0 < h1.length := fun hq_ => c32 ((g_ltN (a := 0) (b := h1.length) (hx := rfl) (hy := Sx29) (by omega) (by omega)).mpr hq_)
        refine G_aload_n (i := 0) C 56 dX11_between_55 rfl rfl rfl ?_
        refine G_iload_n (i := 1) C 57 dX11_between_56 rfl rfl rfl ?_
        refine G_callv 60 (G_runV C Kc_X11_holds KV_X11_131 (by omega) (by decide) (eM _ _ _) rfl (c_X11_holds 0 s17 h1.length hS2.2.1 (by omega) x) rfl rfl rfl (Nat.le_of_ble_eq_true rfl) rfl dX11_between_57) rfl (fun s57 h57 => ?_)
        refine G_iconst (v := 1) C 61 dX11_between_60 rfl rfl ?_
        have hno : ¬ (t_rk c = 4 ∧ t_top h1 = 4) := fun z => by
              have h0 : h1 = [] := List.eq_nil_of_length_eq_zero (by omega)
              rw [h0] at z
              exact absurd z.2 (by decide)
        exact G_zret C rfl dX11_between_61 (⟨fun z => absurd z hno, fun _ => ⟨rfl, t_S_hold (h := h1) ⟨hS2.1, hS2.2.2.2.1, hS2.2.2.2.2.1, hS2.2.2.2.2.2⟩ (by rw [hop h1]; exact hS2.2.2.1) (by rw [← hx]; exact h57)⟩, t_F.tr hF2 (t_F.hold h57)⟩)
      ·
        have n32 : 0 < h1.length := (g_ltN (a := 0) (b := h1.length) (hx := rfl) (hy := Sx29) (by omega) (by omega)).mp c32
        obtain ⟨c2, h2, rfl⟩ : ∃ c2 h2, h1 = c2 :: h2 := List.exists_cons_of_length_pos (by omega)
        have hc2 : c2 < 20 := hm2 c2 List.mem_cons_self
        have hrk92 := t_rk9 c2
        simp only [List.length_cons] at hlen
        refine G_aload_n (i := 0) C 36 dX11_between_35 rfl rfl rfl ?_
        refine X11_52g C 39 dX11_between_36 rfl ?_
        refine G_aload_n (i := 0) C 40 dX11_between_39 rfl rfl rfl ?_
        refine X11_118g C 43 dX11_between_40 rfl (fun x40 ex40 => ?_)
        have Sx40 : x40 = nI (h2.length + 1) := ex40.trans (hS2.2.1)
        refine G_iconst (v := 1) C 44 dX11_between_43 rfl rfl ?_
        refine G_isub C 45 dX11_between_44 rfl (fun x44 ex44 => ?_)
        have Nx44 : x44 = nI h2.length := g_sub1 ex44 Sx40
        refine G_iald (n := 200) C 46 (by decide) (eMk (by decide) _ _ _) (h2.length) Nx44 (by omega) (by decide) dX11_between_45 rfl (fun x45 ex45 => ?_)
        have Sx45 : x45 = nI c2 := ex45.trans (hS2.2.2.2.2.1.1)
        refine G_calli 49 (G_runS C Kc_X11_rank KS_X11_121 (by omega) (c_X11_rank 0 c2 x45 Sx45 hc2 s17) rfl rfl (Nat.le_of_ble_eq_true rfl) rfl dX11_between_46) rfl (fun x46 s46 h46 => ?_)
        obtain ⟨es46, h46⟩ := h46
        have es46 := es46.symm
        subst es46
        refine G_iconst (v := 4) C 50 dX11_between_49 rfl rfl ?_
        refine G_icmp_ne C 55 53 dX11_between_50 rfl rfl (fun c50 => ?_) (fun c50 => ?_)
        ·
          have n50 : ¬ (t_rk c2) = 4 := fun hq_ => c50 ((g_eqN (a := (t_rk c2)) (b := 4) (hx := h46) (hy := rfl) (by omega) (by omega)).mpr hq_)
          have k50 := g_neT h46 c50
          refine G_aload_n (i := 0) C 56 dX11_between_55 rfl rfl rfl ?_
          refine G_iload_n (i := 1) C 57 dX11_between_56 rfl rfl rfl ?_
          refine G_callv 60 (G_runV C Kc_X11_holds KV_X11_131 (by omega) (by decide) (eM _ _ _) rfl (c_X11_holds 0 s17 (c2 :: h2).length hS2.2.1 (by simp only [List.length_cons]; omega) x) rfl rfl rfl (Nat.le_of_ble_eq_true rfl) rfl dX11_between_57) rfl (fun s57 h57 => ?_)
          refine G_iconst (v := 1) C 61 dX11_between_60 rfl rfl ?_
          have hno : ¬ (t_rk c = 4 ∧ t_top (c2 :: h2) = 4) := fun z => n50 z.2
          exact G_zret C rfl dX11_between_61 (⟨fun z => absurd z hno, fun _ => ⟨rfl, t_S_hold (h := (c2 :: h2)) ⟨hS2.1, hS2.2.2.2.1, hS2.2.2.2.2.1, hS2.2.2.2.2.2⟩ (by rw [hop (c2 :: h2)]; exact hS2.2.2.1) (by rw [← hx]; exact h57)⟩, t_F.tr hF2 (t_F.hold h57)⟩)
        ·
          have n50 : (t_rk c2) = 4 := (g_eqN (a := (t_rk c2)) (b := 4) (hx := h46) (hy := rfl) (by omega) (by omega)).mp c50
          have k50 := h46.symm.trans c50
          refine G_iconst (v := 0) C 54 dX11_between_53 rfl rfl ?_
          exact G_zret C rfl dX11_between_54 (⟨fun _ => rfl, fun z => absurd ⟨n25, n50⟩ z, hF2⟩)
  ·
    have n6 : (t_rk c) = 4 := (g_eqN (a := (t_rk c)) (b := 4) (hx := h2) (hy := rfl) (by omega) (by omega)).mp c6
    have k6 := h2.symm.trans c6
    refine G_iconst (v := 5) C 10 dX11_between_9 rfl rfl ?_
    refine G_goto C 17 dX11_between_10 rfl ?_
    have hB : (if t_rk c = 4 then 5 else t_rk c) = 5 := if_pos n6
    refine G_callv 20 (G_runV C Kc_X11_unwinds KV_X11_134 (by omega) (by decide) (eM _ _ _) rfl (c_X11_unwinds 0 s t z0 5 h cs hS ht6 hb hm 5 rfl (by omega) (by have := t_rk9 c; omega)) rfl rfl rfl (Nat.le_of_ble_eq_true rfl) rfl dX11_between_17) rfl (fun s17 h17 => ?_)
    rw [← hB] at h17
    obtain ⟨hS2, hF2⟩ := h17
    have hlen := t_u_len (if t_rk c = 4 then 5 else t_rk c) h cs
    have hm2 : ∀ q, q ∈ (t_u (if t_rk c = 4 then 5 else t_rk c) h cs).1 → q < 20 := fun q hq => hm q (t_u_mem _ _ _ _ hq)
    generalize t_u (if t_rk c = 4 then 5 else t_rk c) h cs = U at hS2 hlen hm2
    obtain ⟨h1, cs1⟩ := U
    simp only at hS2 hlen hm2
    refine G_iload_n (i := 1) C 21 dX11_between_20 rfl rfl rfl ?_
    refine G_calli 24 (G_runS C Kc_X11_rank KS_X11_121 (by omega) (c_X11_rank 0 c x hx hc20 s17) rfl rfl (Nat.le_of_ble_eq_true rfl) rfl dX11_between_21) rfl (fun x21 s21 h21 => ?_)
    obtain ⟨es21, h21⟩ := h21
    have es21 := es21.symm
    subst es21
    refine G_iconst (v := 4) C 25 dX11_between_24 rfl rfl ?_
    refine G_icmp_ne C 55 28 dX11_between_25 rfl rfl (fun c25 => ?_) (fun c25 => ?_)
    ·
      have n25 : ¬ (t_rk c) = 4 := fun hq_ => c25 ((g_eqN (a := (t_rk c)) (b := 4) (hx := h21) (hy := rfl) (by omega) (by omega)).mpr hq_)
      have k25 := g_neT h21 c25
      refine G_aload_n (i := 0) C 56 dX11_between_55 rfl rfl rfl ?_
      refine G_iload_n (i := 1) C 57 dX11_between_56 rfl rfl rfl ?_
      refine G_callv 60 (G_runV C Kc_X11_holds KV_X11_131 (by omega) (by decide) (eM _ _ _) rfl (c_X11_holds 0 s17 h1.length hS2.2.1 (by omega) x) rfl rfl rfl (Nat.le_of_ble_eq_true rfl) rfl dX11_between_57) rfl (fun s57 h57 => ?_)
      refine G_iconst (v := 1) C 61 dX11_between_60 rfl rfl ?_
      have hno : ¬ (t_rk c = 4 ∧ t_top h1 = 4) := fun z => n25 z.1
      exact G_zret C rfl dX11_between_61 (⟨fun z => absurd z hno, fun _ => ⟨rfl, t_S_hold (h := h1) ⟨hS2.1, hS2.2.2.2.1, hS2.2.2.2.2.1, hS2.2.2.2.2.2⟩ (by rw [hop h1]; exact hS2.2.2.1) (by rw [← hx]; exact h57)⟩, t_F.tr hF2 (t_F.hold h57)⟩)
    ·
      have n25 : (t_rk c) = 4 := (g_eqN (a := (t_rk c)) (b := 4) (hx := h21) (hy := rfl) (by omega) (by omega)).mp c25
      have k25 := h21.symm.trans c25
      refine G_aload_n (i := 0) C 29 dX11_between_28 rfl rfl rfl ?_
      refine X11_118g C 32 dX11_between_29 rfl (fun x29 ex29 => ?_)
      have Sx29 : x29 = nI (h1.length) := ex29.trans (hS2.2.1)
      refine G_if_le C 55 35 dX11_between_32 rfl rfl (fun c32 => ?_) (fun c32 => ?_)
      ·
        have n32 : ¬ 0 < h1.length := fun hq_ => c32 ((g_ltN (a := 0) (b := h1.length) (hx := rfl) (hy := Sx29) (by omega) (by omega)).mpr hq_)
        refine G_aload_n (i := 0) C 56 dX11_between_55 rfl rfl rfl ?_
        refine G_iload_n (i := 1) C 57 dX11_between_56 rfl rfl rfl ?_
        refine G_callv 60 (G_runV C Kc_X11_holds KV_X11_131 (by omega) (by decide) (eM _ _ _) rfl (c_X11_holds 0 s17 h1.length hS2.2.1 (by omega) x) rfl rfl rfl (Nat.le_of_ble_eq_true rfl) rfl dX11_between_57) rfl (fun s57 h57 => ?_)
        refine G_iconst (v := 1) C 61 dX11_between_60 rfl rfl ?_
        have hno : ¬ (t_rk c = 4 ∧ t_top h1 = 4) := fun z => by
              have h0 : h1 = [] := List.eq_nil_of_length_eq_zero (by omega)
              rw [h0] at z
              exact absurd z.2 (by decide)
        exact G_zret C rfl dX11_between_61 (⟨fun z => absurd z hno, fun _ => ⟨rfl, t_S_hold (h := h1) ⟨hS2.1, hS2.2.2.2.1, hS2.2.2.2.2.1, hS2.2.2.2.2.2⟩ (by rw [hop h1]; exact hS2.2.2.1) (by rw [← hx]; exact h57)⟩, t_F.tr hF2 (t_F.hold h57)⟩)
      ·
        have n32 : 0 < h1.length := (g_ltN (a := 0) (b := h1.length) (hx := rfl) (hy := Sx29) (by omega) (by omega)).mp c32
        obtain ⟨c2, h2, rfl⟩ : ∃ c2 h2, h1 = c2 :: h2 := List.exists_cons_of_length_pos (by omega)
        have hc2 : c2 < 20 := hm2 c2 List.mem_cons_self
        have hrk92 := t_rk9 c2
        simp only [List.length_cons] at hlen
        refine G_aload_n (i := 0) C 36 dX11_between_35 rfl rfl rfl ?_
        refine X11_52g C 39 dX11_between_36 rfl ?_
        refine G_aload_n (i := 0) C 40 dX11_between_39 rfl rfl rfl ?_
        refine X11_118g C 43 dX11_between_40 rfl (fun x40 ex40 => ?_)
        have Sx40 : x40 = nI (h2.length + 1) := ex40.trans (hS2.2.1)
        refine G_iconst (v := 1) C 44 dX11_between_43 rfl rfl ?_
        refine G_isub C 45 dX11_between_44 rfl (fun x44 ex44 => ?_)
        have Nx44 : x44 = nI h2.length := g_sub1 ex44 Sx40
        refine G_iald (n := 200) C 46 (by decide) (eMk (by decide) _ _ _) (h2.length) Nx44 (by omega) (by decide) dX11_between_45 rfl (fun x45 ex45 => ?_)
        have Sx45 : x45 = nI c2 := ex45.trans (hS2.2.2.2.2.1.1)
        refine G_calli 49 (G_runS C Kc_X11_rank KS_X11_121 (by omega) (c_X11_rank 0 c2 x45 Sx45 hc2 s17) rfl rfl (Nat.le_of_ble_eq_true rfl) rfl dX11_between_46) rfl (fun x46 s46 h46 => ?_)
        obtain ⟨es46, h46⟩ := h46
        have es46 := es46.symm
        subst es46
        refine G_iconst (v := 4) C 50 dX11_between_49 rfl rfl ?_
        refine G_icmp_ne C 55 53 dX11_between_50 rfl rfl (fun c50 => ?_) (fun c50 => ?_)
        ·
          have n50 : ¬ (t_rk c2) = 4 := fun hq_ => c50 ((g_eqN (a := (t_rk c2)) (b := 4) (hx := h46) (hy := rfl) (by omega) (by omega)).mpr hq_)
          have k50 := g_neT h46 c50
          refine G_aload_n (i := 0) C 56 dX11_between_55 rfl rfl rfl ?_
          refine G_iload_n (i := 1) C 57 dX11_between_56 rfl rfl rfl ?_
          refine G_callv 60 (G_runV C Kc_X11_holds KV_X11_131 (by omega) (by decide) (eM _ _ _) rfl (c_X11_holds 0 s17 (c2 :: h2).length hS2.2.1 (by simp only [List.length_cons]; omega) x) rfl rfl rfl (Nat.le_of_ble_eq_true rfl) rfl dX11_between_57) rfl (fun s57 h57 => ?_)
          refine G_iconst (v := 1) C 61 dX11_between_60 rfl rfl ?_
          have hno : ¬ (t_rk c = 4 ∧ t_top (c2 :: h2) = 4) := fun z => n50 z.2
          exact G_zret C rfl dX11_between_61 (⟨fun z => absurd z hno, fun _ => ⟨rfl, t_S_hold (h := (c2 :: h2)) ⟨hS2.1, hS2.2.2.2.1, hS2.2.2.2.2.1, hS2.2.2.2.2.2⟩ (by rw [hop (c2 :: h2)]; exact hS2.2.2.1) (by rw [← hx]; exact h57)⟩, t_F.tr hF2 (t_F.hold h57)⟩)
        ·
          have n50 : (t_rk c2) = 4 := (g_eqN (a := (t_rk c2)) (b := 4) (hx := h46) (hy := rfl) (by omega) (by omega)).mp c50
          have k50 := h46.symm.trans c50
          refine G_iconst (v := 0) C 54 dX11_between_53 rfl rfl ?_
          exact G_zret C rfl dX11_between_54 (⟨fun _ => rfl, fun z => absurd ⟨n25, n50⟩ z, hF2⟩)
theorem dX11_signOf_0 : decode cX11_signOf 0 = .ok (.aload_n 0, 1) := by decide +kernel
theorem dX11_signOf_1 : decode cX11_signOf 1 = .ok (.getfield 105, 3) := by decide +kernel
theorem dX11_signOf_4 : decode cX11_signOf 4 = .ok (.iconst 4, 1) := by decide +kernel
theorem dX11_signOf_5 : decode cX11_signOf 5 = .ok (.if_icmp .ne 8, 3) := by decide +kernel
theorem dX11_signOf_8 : decode cX11_signOf 8 = .ok (.bipush 11, 2) := by decide +kernel
theorem dX11_signOf_10 : decode cX11_signOf 10 = .ok (.goto 87, 3) := by decide +kernel
theorem dX11_signOf_13 : decode cX11_signOf 13 = .ok (.aload_n 0, 1) := by decide +kernel
theorem dX11_signOf_14 : decode cX11_signOf 14 = .ok (.getfield 105, 3) := by decide +kernel
theorem dX11_signOf_17 : decode cX11_signOf 17 = .ok (.iconst 5, 1) := by decide +kernel
theorem dX11_signOf_18 : decode cX11_signOf 18 = .ok (.if_icmp .ne 8, 3) := by decide +kernel
theorem dX11_signOf_21 : decode cX11_signOf 21 = .ok (.bipush 12, 2) := by decide +kernel
theorem dX11_signOf_23 : decode cX11_signOf 23 = .ok (.goto 74, 3) := by decide +kernel
theorem dX11_signOf_26 : decode cX11_signOf 26 = .ok (.aload_n 0, 1) := by decide +kernel
theorem dX11_signOf_27 : decode cX11_signOf 27 = .ok (.getfield 105, 3) := by decide +kernel
theorem dX11_signOf_30 : decode cX11_signOf 30 = .ok (.bipush 60, 2) := by decide +kernel
theorem dX11_signOf_32 : decode cX11_signOf 32 = .ok (.if_icmp .ne 8, 3) := by decide +kernel
theorem dX11_signOf_35 : decode cX11_signOf 35 = .ok (.bipush 14, 2) := by decide +kernel
theorem dX11_signOf_37 : decode cX11_signOf 37 = .ok (.goto 60, 3) := by decide +kernel
theorem dX11_signOf_40 : decode cX11_signOf 40 = .ok (.aload_n 0, 1) := by decide +kernel
theorem dX11_signOf_41 : decode cX11_signOf 41 = .ok (.getfield 105, 3) := by decide +kernel
theorem dX11_signOf_44 : decode cX11_signOf 44 = .ok (.bipush 61, 2) := by decide +kernel
theorem dX11_signOf_46 : decode cX11_signOf 46 = .ok (.if_icmp .ne 8, 3) := by decide +kernel
theorem dX11_signOf_49 : decode cX11_signOf 49 = .ok (.bipush 15, 2) := by decide +kernel
theorem dX11_signOf_51 : decode cX11_signOf 51 = .ok (.goto 46, 3) := by decide +kernel
theorem dX11_signOf_54 : decode cX11_signOf 54 = .ok (.aload_n 0, 1) := by decide +kernel
theorem dX11_signOf_55 : decode cX11_signOf 55 = .ok (.getfield 105, 3) := by decide +kernel
theorem dX11_signOf_58 : decode cX11_signOf 58 = .ok (.bipush 43, 2) := by decide +kernel
theorem dX11_signOf_60 : decode cX11_signOf 60 = .ok (.if_icmp .ne 8, 3) := by decide +kernel
theorem dX11_signOf_63 : decode cX11_signOf 63 = .ok (.bipush 16, 2) := by decide +kernel
theorem dX11_signOf_65 : decode cX11_signOf 65 = .ok (.goto 32, 3) := by decide +kernel
theorem dX11_signOf_68 : decode cX11_signOf 68 = .ok (.aload_n 0, 1) := by decide +kernel
theorem dX11_signOf_69 : decode cX11_signOf 69 = .ok (.getfield 105, 3) := by decide +kernel
theorem dX11_signOf_72 : decode cX11_signOf 72 = .ok (.bipush 45, 2) := by decide +kernel
theorem dX11_signOf_74 : decode cX11_signOf 74 = .ok (.if_icmp .ne 8, 3) := by decide +kernel
theorem dX11_signOf_77 : decode cX11_signOf 77 = .ok (.bipush 17, 2) := by decide +kernel
theorem dX11_signOf_79 : decode cX11_signOf 79 = .ok (.goto 18, 3) := by decide +kernel
theorem dX11_signOf_82 : decode cX11_signOf 82 = .ok (.aload_n 0, 1) := by decide +kernel
theorem dX11_signOf_83 : decode cX11_signOf 83 = .ok (.getfield 105, 3) := by decide +kernel
theorem dX11_signOf_86 : decode cX11_signOf 86 = .ok (.bipush 42, 2) := by decide +kernel
theorem dX11_signOf_88 : decode cX11_signOf 88 = .ok (.if_icmp .ne 8, 3) := by decide +kernel
theorem dX11_signOf_91 : decode cX11_signOf 91 = .ok (.bipush 18, 2) := by decide +kernel
theorem dX11_signOf_93 : decode cX11_signOf 93 = .ok (.goto 4, 3) := by decide +kernel
theorem dX11_signOf_96 : decode cX11_signOf 96 = .ok (.iconst (-1), 1) := by decide +kernel
theorem dX11_signOf_97 : decode cX11_signOf 97 = .ok (.ireturn, 1) := by decide +kernel
set_option maxHeartbeats 4000000 in
set_option maxRecDepth 100000 in
theorem c_X11_signOf (d : Nat) (s : gS) (c : Nat) (hk : s 0 20 = t_mt c) : gMt SM yX11_signOf cX11_signOf 1 (some .int) (d + 1) (fun ad => [.ref (ad 0)]) s (gQi SM (fun r s' => s' = s ∧ (t_isB c → r = nI c) ∧ (¬ t_isB c → r = -1))) := by
  refine gMt_of SM_ok (by decide +kernel) (fun ad => [some (.ref (ad 0))]) (fun _ => rfl) (fun _ => rfl) (fun _ => Nat.le_of_ble_eq_true rfl) (fun E C0 => ?_)
  have C : gCx SM E RX11 cX11_signOf 1 (some .int) (d + 1) := C0
  refine G_aload_n (i := 0) C 1 dX11_signOf_0 rfl rfl rfl ?_
  refine X11_105g C 4 dX11_signOf_1 rfl (fun x1 ex1 => ?_)
  refine G_iconst (v := 4) C 5 dX11_signOf_4 rfl rfl ?_
  refine G_icmp_ne C 13 8 dX11_signOf_5 rfl rfl (fun c5 => ?_) (fun c5 => ?_)
  ·
    refine G_aload_n (i := 0) C 14 dX11_signOf_13 rfl rfl rfl ?_
    refine X11_105g C 17 dX11_signOf_14 rfl (fun x14 ex14 => ?_)
    refine G_iconst (v := 5) C 18 dX11_signOf_17 rfl rfl ?_
    refine G_icmp_ne C 26 21 dX11_signOf_18 rfl rfl (fun c18 => ?_) (fun c18 => ?_)
    ·
      refine G_aload_n (i := 0) C 27 dX11_signOf_26 rfl rfl rfl ?_
      refine X11_105g C 30 dX11_signOf_27 rfl (fun x27 ex27 => ?_)
      refine G_bipush (v := 60) C 32 dX11_signOf_30 rfl rfl ?_
      refine G_icmp_ne C 40 35 dX11_signOf_32 rfl rfl (fun c32 => ?_) (fun c32 => ?_)
      ·
        refine G_aload_n (i := 0) C 41 dX11_signOf_40 rfl rfl rfl ?_
        refine X11_105g C 44 dX11_signOf_41 rfl (fun x41 ex41 => ?_)
        refine G_bipush (v := 61) C 46 dX11_signOf_44 rfl rfl ?_
        refine G_icmp_ne C 54 49 dX11_signOf_46 rfl rfl (fun c46 => ?_) (fun c46 => ?_)
        ·
          refine G_aload_n (i := 0) C 55 dX11_signOf_54 rfl rfl rfl ?_
          refine X11_105g C 58 dX11_signOf_55 rfl (fun x55 ex55 => ?_)
          refine G_bipush (v := 43) C 60 dX11_signOf_58 rfl rfl ?_
          refine G_icmp_ne C 68 63 dX11_signOf_60 rfl rfl (fun c60 => ?_) (fun c60 => ?_)
          ·
            refine G_aload_n (i := 0) C 69 dX11_signOf_68 rfl rfl rfl ?_
            refine X11_105g C 72 dX11_signOf_69 rfl (fun x69 ex69 => ?_)
            refine G_bipush (v := 45) C 74 dX11_signOf_72 rfl rfl ?_
            refine G_icmp_ne C 82 77 dX11_signOf_74 rfl rfl (fun c74 => ?_) (fun c74 => ?_)
            ·
              refine G_aload_n (i := 0) C 83 dX11_signOf_82 rfl rfl rfl ?_
              refine X11_105g C 86 dX11_signOf_83 rfl (fun x83 ex83 => ?_)
              refine G_bipush (v := 42) C 88 dX11_signOf_86 rfl rfl ?_
              refine G_icmp_ne C 96 91 dX11_signOf_88 rfl rfl (fun c88 => ?_) (fun c88 => ?_)
              ·
                refine G_iconst (v := (-1)) C 97 dX11_signOf_96 rfl rfl ?_
                have q11 : ¬ c = 11 := fun z => c5 (ex1.trans (hk.trans (by rw [z]; decide)))
                have q12 : ¬ c = 12 := fun z => c18 (ex14.trans (hk.trans (by rw [z]; decide)))
                have q14 : ¬ c = 14 := fun z => c32 (ex27.trans (hk.trans (by rw [z]; decide)))
                have q15 : ¬ c = 15 := fun z => c46 (ex41.trans (hk.trans (by rw [z]; decide)))
                have q16 : ¬ c = 16 := fun z => c60 (ex55.trans (hk.trans (by rw [z]; decide)))
                have q17 : ¬ c = 17 := fun z => c74 (ex69.trans (hk.trans (by rw [z]; decide)))
                have q18 : ¬ c = 18 := fun z => c88 (ex83.trans (hk.trans (by rw [z]; decide)))
                exact G_iret C dX11_signOf_97 (⟨rfl, fun z => by unfold t_isB at z; omega, fun _ => rfl⟩)
              ·
                refine G_bipush (v := 18) C 93 dX11_signOf_91 rfl rfl ?_
                refine G_goto C 97 dX11_signOf_93 rfl ?_
                have hc : c = 18 := t_mi_42 ((hk.symm.trans ex83.symm).trans c88)
                exact G_iret C dX11_signOf_97 (⟨rfl, by subst hc; exact ⟨fun _ => rfl, fun z => absurd (by unfold t_isB; omega) z⟩⟩)
            ·
              refine G_bipush (v := 17) C 79 dX11_signOf_77 rfl rfl ?_
              refine G_goto C 97 dX11_signOf_79 rfl ?_
              have hc : c = 17 := t_mi_45 ((hk.symm.trans ex69.symm).trans c74)
              exact G_iret C dX11_signOf_97 (⟨rfl, by subst hc; exact ⟨fun _ => rfl, fun z => absurd (by unfold t_isB; omega) z⟩⟩)
          ·
            refine G_bipush (v := 16) C 65 dX11_signOf_63 rfl rfl ?_
            refine G_goto C 97 dX11_signOf_65 rfl ?_
            have hc : c = 16 := t_mi_43 ((hk.symm.trans ex55.symm).trans c60)
            exact G_iret C dX11_signOf_97 (⟨rfl, by subst hc; exact ⟨fun _ => rfl, fun z => absurd (by unfold t_isB; omega) z⟩⟩)
        ·
          refine G_bipush (v := 15) C 51 dX11_signOf_49 rfl rfl ?_
          refine G_goto C 97 dX11_signOf_51 rfl ?_
          have hc : c = 15 := t_mi_61 ((hk.symm.trans ex41.symm).trans c46)
          exact G_iret C dX11_signOf_97 (⟨rfl, by subst hc; exact ⟨fun _ => rfl, fun z => absurd (by unfold t_isB; omega) z⟩⟩)
      ·
        refine G_bipush (v := 14) C 37 dX11_signOf_35 rfl rfl ?_
        refine G_goto C 97 dX11_signOf_37 rfl ?_
        have hc : c = 14 := t_mi_60 ((hk.symm.trans ex27.symm).trans c32)
        exact G_iret C dX11_signOf_97 (⟨rfl, by subst hc; exact ⟨fun _ => rfl, fun z => absurd (by unfold t_isB; omega) z⟩⟩)
    ·
      refine G_bipush (v := 12) C 23 dX11_signOf_21 rfl rfl ?_
      refine G_goto C 97 dX11_signOf_23 rfl ?_
      have hc : c = 12 := t_mi_5 ((hk.symm.trans ex14.symm).trans c18)
      exact G_iret C dX11_signOf_97 (⟨rfl, by subst hc; exact ⟨fun _ => rfl, fun z => absurd (by unfold t_isB; omega) z⟩⟩)
  ·
    refine G_bipush (v := 11) C 10 dX11_signOf_8 rfl rfl ?_
    refine G_goto C 97 dX11_signOf_10 rfl ?_
    have hc : c = 11 := t_mi_4 ((hk.symm.trans ex1.symm).trans c5)
    exact G_iret C dX11_signOf_97 (⟨rfl, by subst hc; exact ⟨fun _ => rfl, fun z => absurd (by unfold t_isB; omega) z⟩⟩)
