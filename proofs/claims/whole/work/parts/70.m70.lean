def c_B (f : Nat → Int32) (e t z p : Nat) (s : gS) : Prop := c_T f e p s ∧ s 4 = f ∧ s 3 1 = nI e ∧ s 3 6 = nI (6 + 4 * t) ∧ s (6 + 4 * t) 3 = nI z
def c_Q (f : Nat → Int32) (e t z U o p : Nat) (s : gS) (r : Int32) (s' : gS) : Prop := c_F t z s s' ∧ ((r = 1 ∧ ∃ p2 cs, c_T f e p2 s' ∧ c_S s' t z cs ∧ p < p2 ∧ p2 ≤ e ∧ p + cs.length ≤ p2 ∧ c_go f e U o p p2 cs) ∨ (r = 0 ∧ ∃ p2, c_T f e p2 s' ∧ p2 ≤ e ∧ c_no f e U o p p2))
def c_C (y : MethodName) (cc : ByteArray) (nL dd U o : Nat) : Prop := ∀ (d : Nat) (f : Nat → Int32) (e t z p : Nat) (s : gS) (v : Int32), v = nI o → c_B f e t z p s → p ≤ e → z ≤ p → e ≤ 160 → t < 6 → (∀ j, j < e → ∃ v, v < 256 ∧ f j = nI v) → gMt SC y cc nL (some .boolean) (d + dd) (fun ad => [.ref (ad 3), .int v]) s (gQi SC (fun r s' => c_Q f e t z U o p s r s'))
theorem c_B.adv {f : Nat → Int32} {e t z p : Nat} {s s' : gS} (hB : c_B f e t z p s) (h : c_N s s' ∧ s' 3 3 = nI (t_pl (s 4) e (t_n f e p)) ∧ s' 3 4 = nI (t_n (s 4) e (t_n f e p)) ∧ s' 3 2 = c_tk (t_c (s 4) e (t_n f e p)) ∧ (100000 ≤ t_c (s 4) e (t_n f e p) → s' 3 5 = nI (t_c (s 4) e (t_n f e p) - 100000))) : c_N s s' ∧ c_B f e t z (t_n f e p) s' := by
  obtain ⟨h1, h2, h3⟩ := c_T_adv hB.2.1 h
  exact ⟨h1, h3, h2, (h1.2 1 (by decide)).trans hB.2.2.1, (h1.2 6 (by decide)).trans hB.2.2.2.1, by rw [h1.1 _ (by omega)]; exact hB.2.2.2.2⟩
theorem c_B.sub {f : Nat → Int32} {e t z p p2 : Nat} {cs cs2 : List Nat} {s s' : gS} (hB : c_B f e t (z + cs.length) p s) (hF : c_F t (z + cs.length) s s') (hT : c_T f e p2 s') (hS : c_S s' t (z + cs.length) cs2) : c_B f e t (z + (cs ++ cs2).length) p2 s' :=
  ⟨hT, (hF.1 4 (by decide) (by omega) (by omega)).trans hB.2.1, (hF.2.1 1 (by decide)).trans hB.2.2.1, (hF.2.1 6 (by decide)).trans hB.2.2.2.1, by rw [hS.1, List.length_append, Nat.add_assoc]⟩
theorem c_B.put {f : Nat → Int32} {e t z p c : Nat} {cs : List Nat} {s s' : gS} {v : Int32} (hB : c_B f e t (z + cs.length) p s) (h : s' = g_up (g_up s (6 + 4 * t + 1) (z + cs.length) v) (6 + 4 * t) 3 (nI (z + cs.length + 1))) : c_B f e t (z + (cs ++ [c]).length) p s' := by
  have h3 : s' 3 = s 3 := by rw [h, g_up_n (by omega), g_up_n (by omega)]
  have h4 : s' 4 = s 4 := by rw [h, g_up_n (by omega), g_up_n (by omega)]
  refine ⟨?_, by rw [h4]; exact hB.2.1, by rw [h3]; exact hB.2.2.1, by rw [h3]; exact hB.2.2.2.1, ?_⟩
  · unfold c_T
    rw [h3]
    exact hB.1
  · rw [h, g_up_sj, if_pos rfl, List.length_append]
    rfl
theorem c_S0 {s : gS} {t z : Nat} (h : s (6 + 4 * t) 3 = nI z) : c_S s t z [] := ⟨h, fun i c hc => absurd hc (by simp)⟩
theorem c_S_app {s s' : gS} {t z : Nat} {a b : List Nat} (hS : c_S s t z a) (hS2 : c_S s' t (z + a.length) b) (hF : c_F t (z + a.length) s s') : c_S s' t z (a ++ b) := by
  refine ⟨by rw [hS2.1, List.length_append, Nat.add_assoc], fun i c hc => ?_⟩
  by_cases hi : i < a.length
  · rw [List.getElem?_append_left hi] at hc
    rw [hF.2.2.2 (z + i) (by omega)]
    exact hS.2 i c hc
  · rw [List.getElem?_append_right (by omega)] at hc
    have := hS2.2 (i - a.length) c hc
    rw [show z + a.length + (i - a.length) = z + i by omega] at this
    exact this
theorem dX6_readOne_0 : decode cX6_readOne 0 = .ok (.aload_n 0, 1) := by decide +kernel
theorem dX6_readOne_1 : decode cX6_readOne 1 = .ok (.getfield 32, 3) := by decide +kernel
theorem dX6_readOne_4 : decode cX6_readOne 4 = .ok (.iconst 1, 1) := by decide +kernel
theorem dX6_readOne_5 : decode cX6_readOne 5 = .ok (.if_icmp .eq 17, 3) := by decide +kernel
theorem dX6_readOne_8 : decode cX6_readOne 8 = .ok (.aload_n 0, 1) := by decide +kernel
theorem dX6_readOne_9 : decode cX6_readOne 9 = .ok (.getfield 32, 3) := by decide +kernel
theorem dX6_readOne_12 : decode cX6_readOne 12 = .ok (.bipush 106, 2) := by decide +kernel
theorem dX6_readOne_14 : decode cX6_readOne 14 = .ok (.bipush 111, 2) := by decide +kernel
theorem dX6_readOne_16 : decode cX6_readOne 16 = .ok (.invokestatic 64, 3) := by decide +kernel
theorem dX6_readOne_19 : decode cX6_readOne 19 = .ok (.ifCond .eq 36, 3) := by decide +kernel
theorem dX6_readOne_22 : decode cX6_readOne 22 = .ok (.aload_n 0, 1) := by decide +kernel
theorem dX6_readOne_23 : decode cX6_readOne 23 = .ok (.getfield 19, 3) := by decide +kernel
theorem dX6_readOne_26 : decode cX6_readOne 26 = .ok (.aload_n 0, 1) := by decide +kernel
theorem dX6_readOne_27 : decode cX6_readOne 27 = .ok (.getfield 32, 3) := by decide +kernel
theorem dX6_readOne_30 : decode cX6_readOne 30 = .ok (.iconst 1, 1) := by decide +kernel
theorem dX6_readOne_31 : decode cX6_readOne 31 = .ok (.if_icmp .ne 10, 3) := by decide +kernel
theorem dX6_readOne_34 : decode cX6_readOne 34 = .ok (.aload_n 0, 1) := by decide +kernel
theorem dX6_readOne_35 : decode cX6_readOne 35 = .ok (.getfield 68, 3) := by decide +kernel
theorem dX6_readOne_38 : decode cX6_readOne 38 = .ok (.goto 8, 3) := by decide +kernel
theorem dX6_readOne_41 : decode cX6_readOne 41 = .ok (.aload_n 0, 1) := by decide +kernel
theorem dX6_readOne_42 : decode cX6_readOne 42 = .ok (.getfield 32, 3) := by decide +kernel
theorem dX6_readOne_45 : decode cX6_readOne 45 = .ok (.ineg, 1) := by decide +kernel
theorem dX6_readOne_46 : decode cX6_readOne 46 = .ok (.invokevirtual 48, 3) := by decide +kernel
theorem dX6_readOne_49 : decode cX6_readOne 49 = .ok (.aload_n 0, 1) := by decide +kernel
theorem dX6_readOne_50 : decode cX6_readOne 50 = .ok (.invokevirtual 29, 3) := by decide +kernel
theorem dX6_readOne_53 : decode cX6_readOne 53 = .ok (.iconst 1, 1) := by decide +kernel
theorem dX6_readOne_54 : decode cX6_readOne 54 = .ok (.ireturn, 1) := by decide +kernel
theorem dX6_readOne_55 : decode cX6_readOne 55 = .ok (.iload_n 1, 1) := by decide +kernel
theorem dX6_readOne_56 : decode cX6_readOne 56 = .ok (.iconst 5, 1) := by decide +kernel
theorem dX6_readOne_57 : decode cX6_readOne 57 = .ok (.if_icmp .lt 5, 3) := by decide +kernel
theorem dX6_readOne_60 : decode cX6_readOne 60 = .ok (.iconst 0, 1) := by decide +kernel
theorem dX6_readOne_61 : decode cX6_readOne 61 = .ok (.ireturn, 1) := by decide +kernel
theorem dX6_readOne_62 : decode cX6_readOne 62 = .ok (.aload_n 0, 1) := by decide +kernel
theorem dX6_readOne_63 : decode cX6_readOne 63 = .ok (.getfield 32, 3) := by decide +kernel
theorem dX6_readOne_66 : decode cX6_readOne 66 = .ok (.bipush 45, 2) := by decide +kernel
theorem dX6_readOne_68 : decode cX6_readOne 68 = .ok (.if_icmp .ne 30, 3) := by decide +kernel
theorem dX6_readOne_71 : decode cX6_readOne 71 = .ok (.aload_n 0, 1) := by decide +kernel
theorem dX6_readOne_72 : decode cX6_readOne 72 = .ok (.invokevirtual 29, 3) := by decide +kernel
theorem dX6_readOne_75 : decode cX6_readOne 75 = .ok (.aload_n 0, 1) := by decide +kernel
theorem dX6_readOne_76 : decode cX6_readOne 76 = .ok (.iload_n 1, 1) := by decide +kernel
theorem dX6_readOne_77 : decode cX6_readOne 77 = .ok (.iconst 1, 1) := by decide +kernel
theorem dX6_readOne_78 : decode cX6_readOne 78 = .ok (.iadd, 1) := by decide +kernel
theorem dX6_readOne_79 : decode cX6_readOne 79 = .ok (.invokevirtual 61, 3) := by decide +kernel
theorem dX6_readOne_82 : decode cX6_readOne 82 = .ok (.ifCond .ne 5, 3) := by decide +kernel
theorem dX6_readOne_85 : decode cX6_readOne 85 = .ok (.iconst 0, 1) := by decide +kernel
theorem dX6_readOne_86 : decode cX6_readOne 86 = .ok (.ireturn, 1) := by decide +kernel
theorem dX6_readOne_87 : decode cX6_readOne 87 = .ok (.aload_n 0, 1) := by decide +kernel
theorem dX6_readOne_88 : decode cX6_readOne 88 = .ok (.getfield 19, 3) := by decide +kernel
theorem dX6_readOne_91 : decode cX6_readOne 91 = .ok (.bipush (-112), 2) := by decide +kernel
theorem dX6_readOne_93 : decode cX6_readOne 93 = .ok (.invokevirtual 48, 3) := by decide +kernel
theorem dX6_readOne_96 : decode cX6_readOne 96 = .ok (.iconst 1, 1) := by decide +kernel
theorem dX6_readOne_97 : decode cX6_readOne 97 = .ok (.ireturn, 1) := by decide +kernel
theorem dX6_readOne_98 : decode cX6_readOne 98 = .ok (.aload_n 0, 1) := by decide +kernel
theorem dX6_readOne_99 : decode cX6_readOne 99 = .ok (.getfield 32, 3) := by decide +kernel
theorem dX6_readOne_102 : decode cX6_readOne 102 = .ok (.bipush 40, 2) := by decide +kernel
theorem dX6_readOne_104 : decode cX6_readOne 104 = .ok (.if_icmp .eq 5, 3) := by decide +kernel
theorem dX6_readOne_107 : decode cX6_readOne 107 = .ok (.iconst 0, 1) := by decide +kernel
theorem dX6_readOne_108 : decode cX6_readOne 108 = .ok (.ireturn, 1) := by decide +kernel
theorem dX6_readOne_109 : decode cX6_readOne 109 = .ok (.aload_n 0, 1) := by decide +kernel
theorem dX6_readOne_110 : decode cX6_readOne 110 = .ok (.invokevirtual 29, 3) := by decide +kernel
theorem dX6_readOne_113 : decode cX6_readOne 113 = .ok (.aload_n 0, 1) := by decide +kernel
theorem dX6_readOne_114 : decode cX6_readOne 114 = .ok (.iload_n 1, 1) := by decide +kernel
theorem dX6_readOne_115 : decode cX6_readOne 115 = .ok (.iconst 1, 1) := by decide +kernel
theorem dX6_readOne_116 : decode cX6_readOne 116 = .ok (.iadd, 1) := by decide +kernel
theorem dX6_readOne_117 : decode cX6_readOne 117 = .ok (.invokevirtual 38, 3) := by decide +kernel
theorem dX6_readOne_120 : decode cX6_readOne 120 = .ok (.ifCond .eq 12, 3) := by decide +kernel
theorem dX6_readOne_123 : decode cX6_readOne 123 = .ok (.aload_n 0, 1) := by decide +kernel
theorem dX6_readOne_124 : decode cX6_readOne 124 = .ok (.getfield 32, 3) := by decide +kernel
theorem dX6_readOne_127 : decode cX6_readOne 127 = .ok (.bipush 41, 2) := by decide +kernel
theorem dX6_readOne_129 : decode cX6_readOne 129 = .ok (.if_icmp .eq 5, 3) := by decide +kernel
theorem dX6_readOne_132 : decode cX6_readOne 132 = .ok (.iconst 0, 1) := by decide +kernel
theorem dX6_readOne_133 : decode cX6_readOne 133 = .ok (.ireturn, 1) := by decide +kernel
theorem dX6_readOne_134 : decode cX6_readOne 134 = .ok (.aload_n 0, 1) := by decide +kernel
theorem dX6_readOne_135 : decode cX6_readOne 135 = .ok (.invokevirtual 29, 3) := by decide +kernel
theorem dX6_readOne_138 : decode cX6_readOne 138 = .ok (.iconst 1, 1) := by decide +kernel
theorem dX6_readOne_139 : decode cX6_readOne 139 = .ok (.ireturn, 1) := by decide +kernel
set_option maxHeartbeats 4000000 in
set_option maxRecDepth 100000 in
theorem c_X6_readOne (n o : Nat) (hon : o + n = 5) (ih : ∀ m o2, o2 + m = 5 → m < n → c_C yX6_readOne cX6_readOne 2 (8 + 6 * m) 7 o2 ∧ c_C yX6_readNot cX6_readNot 3 (11 + 6 * m) 3 o2 ∧ c_C yX6_readEither cX6_readEither 3 (13 + 6 * m) 1 o2) (d : Nat) (f : Nat → Int32) (e t z p : Nat) (s : gS) (v : Int32) (hv : v = nI o) (hB : c_B f e t z p s) (hpe : p ≤ e) (hzp : z ≤ p) (he160 : e ≤ 160) (ht6 : t < 6) (hb : ∀ j, j < e → ∃ v, v < 256 ∧ f j = nI v) : gMt SC yX6_readOne cX6_readOne 2 (some .boolean) (d + (8 + 6 * n)) (fun ad => [.ref (ad 3), .int v]) s (gQi SC (fun r s' => c_Q f e t z 7 o p s r s')) := by
  refine gMt_of SC_ok (by decide +kernel) (fun ad => [some (.ref (ad 3)), some (.int v)]) (fun _ => rfl) (fun _ => rfl) (fun _ => Nat.le_of_ble_eq_true rfl) (fun E C0 => ?_)
  have C : gCx SC E RX6 cX6_readOne 2 (some .boolean) (d + (8 + 6 * n)) := C0
  have hF : c_F t z s s := c_F.rf
  have hS : c_S s t z ([] : List Nat) := c_S0 hB.2.2.2.2
  have hBB : c_B f e t z p s := hB
  refine G_aload_n (i := 0) C 1 dX6_readOne_0 rfl rfl rfl ?_
  refine X6_32g C 4 dX6_readOne_1 rfl (fun x1 ex1 => ?_)
  have Sx1 : x1 = c_tk (t_c f e p) := ex1.trans hBB.1.1
  refine G_iconst (v := 1) C 5 dX6_readOne_4 rfl rfl ?_
  refine G_icmp_eq C 22 8 dX6_readOne_5 rfl rfl (fun c5 => ?_) (fun c5 => ?_)
  ·
    have hbig : 100000 ≤ t_c f e p := c_tk_1 (t_c_ok f e p) (Sx1.symm.trans c5)
    refine G_aload_n (i := 0) C 23 dX6_readOne_22 rfl rfl rfl ?_
    refine X6_19g C 26 t ht6 hBB.2.2.2.1 dX6_readOne_23 rfl ?_
    refine G_aload_n (i := 0) C 27 dX6_readOne_26 rfl rfl rfl ?_
    refine X6_32g C 30 dX6_readOne_27 rfl (fun x27 ex27 => ?_)
    have Sx27 : x27 = c_tk (t_c f e p) := ex27.trans hBB.1.1
    refine G_iconst (v := 1) C 31 dX6_readOne_30 rfl rfl ?_
    refine G_icmp_ne C 41 34 dX6_readOne_31 rfl rfl (fun c31 => ?_) (fun c31 => ?_)
    ·
      exact absurd c31 (fun y => y (Sx27.trans (Sx1.symm.trans c5)))
    ·
      refine G_aload_n (i := 0) C 35 dX6_readOne_34 rfl rfl rfl ?_
      refine X6_68g C 38 dX6_readOne_35 rfl (fun x35 ex35 => ?_)
      refine G_goto C 46 dX6_readOne_38 rfl ?_
      have hV : t_isV (t_c f e p) := Or.inl hbig
      have hcl : x35 = x_cl (t_vc (t_c f e p)) := (ex35.trans (hBB.1.2.2.2 hbig)).trans (c_cl_v hbig).symm
      have hnz : ¬ t_c f e p = 0 := fun z => by
        rw [z] at hV
        unfold t_isV at hV
        omega
      have hnv := t_n_lt hpe hnz
      refine G_callv 49 (G_runV C Kc_X7_add KV_X6_48 (by omega) (lT0 ht6) (eTx _ _ _ ht6) rfl (c_X7_add 0 s t z ht6 hBB.2.2.2.2 (by omega) x35) rfl rfl rfl (Nat.le_of_ble_eq_true rfl) rfl dX6_readOne_46) rfl (fun s46 h46 => ?_)
      have hF_1 : c_F t z s s46 := c_F.tr hF (c_F.le (c_S_put hS hcl h46).2 (by omega))
      have hS_1 : c_S s46 t z [(t_vc (t_c f e p))] := (c_S_put hS hcl h46).1
      have hBB_1 : c_B f e t (z + [(t_vc (t_c f e p))].length) p s46 := c_B.put (cs := []) (c := (t_vc (t_c f e p))) hBB h46
      refine G_aload_n (i := 0) C 50 dX6_readOne_49 rfl rfl rfl ?_
      refine G_callv 53 (G_runV C Kc_X6_advance KV_X6_29 (by omega) (by decide) (eTp _ _ _) rfl (c_X6_advance 0 s46 (t_n f e p) e hBB_1.1.2.2.1 hBB_1.2.2.1 hnv.2 he160 (fun j hj => by rw [hBB_1.2.1]; exact hb j hj)) rfl rfl rfl (Nat.le_of_ble_eq_true rfl) rfl dX6_readOne_50) rfl (fun s50 h50 => ?_)
      have hF_2 : c_F t z s s50 := c_F.tr hF_1 (c_N.F (c_B.adv hBB_1 h50).1)
      have hS_2 : c_S s50 t z [(t_vc (t_c f e p))] := c_S_N hS_1 (c_B.adv hBB_1 h50).1
      have hBB_2 : c_B f e t (z + [(t_vc (t_c f e p))].length) (t_n f e p) s50 := (c_B.adv hBB_1 h50).2
      refine G_iconst (v := 1) C 54 dX6_readOne_53 rfl rfl ?_
      exact G_zret C rfl dX6_readOne_54 (⟨hF_2, Or.inl ⟨rfl, (t_n f e p), [(t_vc (t_c f e p))], hBB_2.1, hS_2, hnv.1, hnv.2, hnv.1, c_go_v hpe hV⟩⟩)
  ·
    have hsm : ¬ 100000 ≤ t_c f e p := fun z => c5 (Sx1.trans (c_tk_v z))
    refine G_aload_n (i := 0) C 9 dX6_readOne_8 rfl rfl rfl ?_
    refine X6_32g C 12 dX6_readOne_9 rfl (fun x9 ex9 => ?_)
    have Sx9 : x9 = c_tk (t_c f e p) := ex9.trans hBB.1.1
    refine G_bipush (v := 106) C 14 dX6_readOne_12 rfl rfl ?_
    refine G_bipush (v := 111) C 16 dX6_readOne_14 rfl rfl ?_
    refine G_calli 19 (G_runN C Kc_X10_within KN_X6_64 (by omega) (c_X10_within 0 x9 106 111 s) rfl rfl (Nat.le_of_ble_eq_true rfl) rfl dX6_readOne_16) rfl (fun x16 s16 h16 => ?_)
    obtain ⟨es16, h16⟩ := h16
    have es16 := es16.symm
    subst es16
    refine G_if_eq C 55 22 dX6_readOne_19 rfl rfl (fun c19 => ?_) (fun c19 => ?_)
    ·
      have k19 := h16.symm.trans c19
      have hvn : ¬ t_isV (t_c f e p) := fun z => by
        unfold t_isV at z
        rcases z with z | z
        · exact hsm z
        · exact (c_nm (t_c_ok f e p) hsm).mpr z (by rw [← Sx9]; exact k19)
      refine G_iload_n (i := 1) C 56 dX6_readOne_55 rfl rfl rfl ?_
      refine G_iconst (v := 5) C 57 dX6_readOne_56 rfl rfl ?_
      refine G_icmp_lt C 62 60 dX6_readOne_57 rfl rfl (fun c57 => ?_) (fun c57 => ?_)
      ·
        have n57 : o < 5 := (g_ltN (a := o) (b := 5) (hx := hv) (hy := rfl) (by omega) (by omega)).mp c57
        refine G_aload_n (i := 0) C 63 dX6_readOne_62 rfl rfl rfl ?_
        refine X6_32g C 66 dX6_readOne_63 rfl (fun x63 ex63 => ?_)
        have Sx63 : x63 = c_tk (t_c f e p) := ex63.trans hBB.1.1
        refine G_bipush (v := 45) C 68 dX6_readOne_66 rfl rfl ?_
        refine G_icmp_ne C 98 71 dX6_readOne_68 rfl rfl (fun c68 => ?_) (fun c68 => ?_)
        ·
          have hk68 : ¬ t_c f e p = 17 := fun z => c68 (Sx63.trans (by rw [z]; decide +kernel))
          refine G_aload_n (i := 0) C 99 dX6_readOne_98 rfl rfl rfl ?_
          refine X6_32g C 102 dX6_readOne_99 rfl (fun x99 ex99 => ?_)
          have Sx99 : x99 = c_tk (t_c f e p) := ex99.trans hBB.1.1
          refine G_bipush (v := 40) C 104 dX6_readOne_102 rfl rfl ?_
          refine G_icmp_eq C 109 107 dX6_readOne_104 rfl rfl (fun c104 => ?_) (fun c104 => ?_)
          ·
            have hc104 : t_c f e p = 40 := c_tk_eq (t_c_ok f e p) (by unfold t_okc; omega) (by decide) (Sx99.symm.trans (c104.trans (by decide +kernel : (40 : Int32) = c_tk 40)))
            have hn104 := t_n_lt hpe (by rw [hc104]; decide : ¬ t_c f e p = 0)
            refine G_aload_n (i := 0) C 110 dX6_readOne_109 rfl rfl rfl ?_
            refine G_callv 113 (G_runV C Kc_X6_advance KV_X6_29 (by omega) (by decide) (eTp _ _ _) rfl (c_X6_advance 0 s (t_n f e p) e hBB.1.2.2.1 hBB.2.2.1 hn104.2 he160 (fun j hj => by rw [hBB.2.1]; exact hb j hj)) rfl rfl rfl (Nat.le_of_ble_eq_true rfl) rfl dX6_readOne_110) rfl (fun s110 h110 => ?_)
            have hF_1 : c_F t z s s110 := c_F.tr hF (c_N.F (c_B.adv hBB h110).1)
            have hS_1 : c_S s110 t z ([] : List Nat) := c_S_N hS (c_B.adv hBB h110).1
            have hBB_1 : c_B f e t z (t_n f e p) s110 := (c_B.adv hBB h110).2
            refine G_aload_n (i := 0) C 114 dX6_readOne_113 rfl rfl rfl ?_
            refine G_iload_n (i := 1) C 115 dX6_readOne_114 rfl rfl rfl ?_
            refine G_iconst (v := 1) C 116 dX6_readOne_115 rfl rfl ?_
            refine G_iadd C 117 dX6_readOne_116 rfl (fun x116 ex116 => ?_)
            have Nx116 : x116 = nI (o + 1) := g_addN ex116 hv rfl
            refine G_calli 120 (G_runV C Kc_X6_readEither KV_X6_38 (by omega) (by decide) (eTp _ _ _) rfl ((ih (n - 1) (o + 1) (by omega) (by omega)).2.2 0 f e t z (t_n f e p) s110 x116 Nx116 hBB_1 hn104.2 (by omega) he160 ht6 hb) rfl rfl rfl (Nat.le_of_ble_eq_true rfl) rfl dX6_readOne_117) rfl (fun x117 s117 h117 => ?_)
            have hF_2 : c_F t z s s117 := c_F.tr hF_1 (c_F.le h117.1 (by omega))
            refine G_if_eq C 132 123 dX6_readOne_120 rfl rfl (fun c120 => ?_) (fun c120 => ?_)
            ·
              obtain ⟨p1, hT1, hle1, hg1⟩ := (h117.2.resolve_left (fun y => absurd (y.1.symm.trans c120) (by decide))).2
              clear h117
              refine G_iconst (v := 0) C 133 dX6_readOne_132 rfl rfl ?_
              exact G_zret C rfl dX6_readOne_133 (⟨hF_2, Or.inr ⟨rfl, p1, hT1, hle1, c_no_par hpe hc104 n57 hg1⟩⟩)
            ·
              obtain ⟨p1, cs1, hT1, hS1, hlt1, hle1, hl1, hg1⟩ := (h117.2.resolve_right (fun y => c120 y.1)).2
              have hSn1 : c_S s117 t z cs1 := c_S_app (a := ([] : List Nat)) hS_1 hS1 h117.1
              have hBn1 : c_B f e t (z + cs1.length) p1 s117 := c_B.sub (cs := ([] : List Nat)) hBB_1 h117.1 hT1 hS1
              clear h117
              refine G_aload_n (i := 0) C 124 dX6_readOne_123 rfl rfl rfl ?_
              refine X6_32g C 127 dX6_readOne_124 rfl (fun x124 ex124 => ?_)
              have Sx124 : x124 = c_tk (t_c f e p1) := ex124.trans hBn1.1.1
              refine G_bipush (v := 41) C 129 dX6_readOne_127 rfl rfl ?_
              refine G_icmp_eq C 134 132 dX6_readOne_129 rfl rfl (fun c129 => ?_) (fun c129 => ?_)
              ·
                have hc129 : t_c f e p1 = 41 := c_tk_eq (t_c_ok f e p1) (by unfold t_okc; omega) (by decide) (Sx124.symm.trans (c129.trans (by decide +kernel : (41 : Int32) = c_tk 41)))
                have hn129 := t_n_lt hle1 (by rw [hc129]; decide : ¬ t_c f e p1 = 0)
                refine G_aload_n (i := 0) C 135 dX6_readOne_134 rfl rfl rfl ?_
                refine G_callv 138 (G_runV C Kc_X6_advance KV_X6_29 (by omega) (by decide) (eTp _ _ _) rfl (c_X6_advance 0 s117 (t_n f e p1) e hBn1.1.2.2.1 hBn1.2.2.1 hn129.2 he160 (fun j hj => by rw [hBn1.2.1]; exact hb j hj)) rfl rfl rfl (Nat.le_of_ble_eq_true rfl) rfl dX6_readOne_135) rfl (fun s135 h135 => ?_)
                have hF_3 : c_F t z s s135 := c_F.tr hF_2 (c_N.F (c_B.adv hBn1 h135).1)
                have hS_2 : c_S s135 t z cs1 := c_S_N hSn1 (c_B.adv hBn1 h135).1
                have hBB_2 : c_B f e t (z + cs1.length) (t_n f e p1) s135 := (c_B.adv hBn1 h135).2
                refine G_iconst (v := 1) C 139 dX6_readOne_138 rfl rfl ?_
                exact G_zret C rfl dX6_readOne_139 (⟨hF_3, Or.inl ⟨rfl, (t_n f e p1), cs1, hBB_2.1, hS_2, (by omega), hn129.2, (by omega), c_go_par hpe hle1 hc104 n57 hg1 hc129⟩⟩)
              ·
                have hk129 : ¬ t_c f e p1 = 41 := fun z => c129 (Sx124.trans (by rw [z]; decide +kernel))
                refine G_iconst (v := 0) C 133 dX6_readOne_132 rfl rfl ?_
                exact G_zret C rfl dX6_readOne_133 (⟨hF_2, Or.inr ⟨rfl, p1, hBn1.1, hle1, c_no_cl hpe hle1 hc104 n57 hg1 hk129⟩⟩)
          ·
            have hk104 : ¬ t_c f e p = 40 := fun z => c104 (Sx99.trans (by rw [z]; decide +kernel))
            refine G_iconst (v := 0) C 108 dX6_readOne_107 rfl rfl ?_
            exact G_zret C rfl dX6_readOne_108 (⟨hF, Or.inr ⟨rfl, p, hBB.1, hpe, c_no_x hpe hvn hk68 hk104⟩⟩)
        ·
          have hc68 : t_c f e p = 17 := c_tk_eq (t_c_ok f e p) (by unfold t_okc; omega) (by decide) (Sx63.symm.trans (c68.trans (by decide +kernel : (45 : Int32) = c_tk 17)))
          have hn68 := t_n_lt hpe (by rw [hc68]; decide : ¬ t_c f e p = 0)
          refine G_aload_n (i := 0) C 72 dX6_readOne_71 rfl rfl rfl ?_
          refine G_callv 75 (G_runV C Kc_X6_advance KV_X6_29 (by omega) (by decide) (eTp _ _ _) rfl (c_X6_advance 0 s (t_n f e p) e hBB.1.2.2.1 hBB.2.2.1 hn68.2 he160 (fun j hj => by rw [hBB.2.1]; exact hb j hj)) rfl rfl rfl (Nat.le_of_ble_eq_true rfl) rfl dX6_readOne_72) rfl (fun s72 h72 => ?_)
          have hF_1 : c_F t z s s72 := c_F.tr hF (c_N.F (c_B.adv hBB h72).1)
          have hS_1 : c_S s72 t z ([] : List Nat) := c_S_N hS (c_B.adv hBB h72).1
          have hBB_1 : c_B f e t z (t_n f e p) s72 := (c_B.adv hBB h72).2
          refine G_aload_n (i := 0) C 76 dX6_readOne_75 rfl rfl rfl ?_
          refine G_iload_n (i := 1) C 77 dX6_readOne_76 rfl rfl rfl ?_
          refine G_iconst (v := 1) C 78 dX6_readOne_77 rfl rfl ?_
          refine G_iadd C 79 dX6_readOne_78 rfl (fun x78 ex78 => ?_)
          have Nx78 : x78 = nI (o + 1) := g_addN ex78 hv rfl
          refine G_calli 82 (G_runV C Kc_X6_readOne KV_X6_61 (by omega) (by decide) (eTp _ _ _) rfl ((ih (n - 1) (o + 1) (by omega) (by omega)).1 0 f e t z (t_n f e p) s72 x78 Nx78 hBB_1 hn68.2 (by omega) he160 ht6 hb) rfl rfl rfl (Nat.le_of_ble_eq_true rfl) rfl dX6_readOne_79) rfl (fun x79 s79 h79 => ?_)
          have hF_2 : c_F t z s s79 := c_F.tr hF_1 (c_F.le h79.1 (by omega))
          refine G_if_ne C 87 85 dX6_readOne_82 rfl rfl (fun c82 => ?_) (fun c82 => ?_)
          ·
            obtain ⟨p1, cs1, hT1, hS1, hlt1, hle1, hl1, hg1⟩ := (h79.2.resolve_right (fun y => c82 y.1)).2
            have hSn1 : c_S s79 t z cs1 := c_S_app (a := ([] : List Nat)) hS_1 hS1 h79.1
            have hBn1 : c_B f e t (z + cs1.length) p1 s79 := c_B.sub (cs := ([] : List Nat)) hBB_1 h79.1 hT1 hS1
            clear h79
            refine G_aload_n (i := 0) C 88 dX6_readOne_87 rfl rfl rfl ?_
            refine X6_19g C 91 t ht6 hBn1.2.2.2.1 dX6_readOne_88 rfl ?_
            refine G_bipush (v := (-112)) C 93 dX6_readOne_91 rfl rfl ?_
            refine G_callv 96 (G_runV C Kc_X7_add KV_X6_48 (by omega) (lT0 ht6) (eTx _ _ _ ht6) rfl (c_X7_add 0 s79 t (z + cs1.length) ht6 hBn1.2.2.2.2 (by omega) (-112)) rfl rfl rfl (Nat.le_of_ble_eq_true rfl) rfl dX6_readOne_93) rfl (fun s93 h93 => ?_)
            have hF_3 : c_F t z s s93 := c_F.tr hF_2 (c_F.le (c_S_put hSn1 (by decide +kernel : (-112 : Int32) = x_cl 19) h93).2 (by omega))
            have hS_2 : c_S s93 t z (cs1 ++ [19]) := (c_S_put hSn1 (by decide +kernel : (-112 : Int32) = x_cl 19) h93).1
            have hBB_2 : c_B f e t (z + (cs1 ++ [19]).length) p1 s93 := c_B.put (cs := cs1) (c := 19) hBn1 h93
            refine G_iconst (v := 1) C 97 dX6_readOne_96 rfl rfl ?_
            exact G_zret C rfl dX6_readOne_97 (⟨hF_3, Or.inl ⟨rfl, p1, (cs1 ++ [19]), hBB_2.1, hS_2, (by omega), hle1, (by simp only [List.length_append, List.length_cons, List.length_nil]; omega), c_go_neg hpe hc68 n57 hg1⟩⟩)
          ·
            obtain ⟨p1, hT1, hle1, hg1⟩ := (h79.2.resolve_left (fun y => absurd (y.1.symm.trans c82) (by decide))).2
            clear h79
            refine G_iconst (v := 0) C 86 dX6_readOne_85 rfl rfl ?_
            exact G_zret C rfl dX6_readOne_86 (⟨hF_2, Or.inr ⟨rfl, p1, hT1, hle1, c_no_neg hpe hc68 n57 hg1⟩⟩)
      ·
        have n57 : ¬ o < 5 := fun hq_ => c57 ((g_ltN (a := o) (b := 5) (hx := hv) (hy := rfl) (by omega) (by omega)).mpr hq_)
        refine G_iconst (v := 0) C 61 dX6_readOne_60 rfl rfl ?_
        exact G_zret C rfl dX6_readOne_61 (⟨hF, Or.inr ⟨rfl, p, hBB.1, hpe, (by rw [show o = 5 by omega]; exact c_no_5 hpe hvn)⟩⟩)
    ·
      have k19 := g_neT h16 c19
      refine G_aload_n (i := 0) C 23 dX6_readOne_22 rfl rfl rfl ?_
      refine X6_19g C 26 t ht6 hBB.2.2.2.1 dX6_readOne_23 rfl ?_
      refine G_aload_n (i := 0) C 27 dX6_readOne_26 rfl rfl rfl ?_
      refine X6_32g C 30 dX6_readOne_27 rfl (fun x27 ex27 => ?_)
      have Sx27 : x27 = c_tk (t_c f e p) := ex27.trans hBB.1.1
      refine G_iconst (v := 1) C 31 dX6_readOne_30 rfl rfl ?_
      refine G_icmp_ne C 41 34 dX6_readOne_31 rfl rfl (fun c31 => ?_) (fun c31 => ?_)
      ·
        refine G_aload_n (i := 0) C 42 dX6_readOne_41 rfl rfl rfl ?_
        refine X6_32g C 45 dX6_readOne_42 rfl (fun x42 ex42 => ?_)
        have Sx42 : x42 = c_tk (t_c f e p) := ex42.trans hBB.1.1
        refine G_ineg C 46 dX6_readOne_45 rfl (fun x45 ex45 => ?_)
        have hnm := (c_nm (t_c_ok f e p) hsm).mp (by rw [← Sx9]; exact k19)
        have hV : t_isV (t_c f e p) := Or.inr hnm
        have hcl : x45 = x_cl (t_vc (t_c f e p)) := by rw [ex45, Sx42]; exact (c_cl_n _ hnm.2 hnm.1).symm
        have hnz : ¬ t_c f e p = 0 := fun z => by
          rw [z] at hV
          unfold t_isV at hV
          omega
        have hnv := t_n_lt hpe hnz
        refine G_callv 49 (G_runV C Kc_X7_add KV_X6_48 (by omega) (lT0 ht6) (eTx _ _ _ ht6) rfl (c_X7_add 0 s t z ht6 hBB.2.2.2.2 (by omega) x45) rfl rfl rfl (Nat.le_of_ble_eq_true rfl) rfl dX6_readOne_46) rfl (fun s46 h46 => ?_)
        have hF_1 : c_F t z s s46 := c_F.tr hF (c_F.le (c_S_put hS hcl h46).2 (by omega))
        have hS_1 : c_S s46 t z [(t_vc (t_c f e p))] := (c_S_put hS hcl h46).1
        have hBB_1 : c_B f e t (z + [(t_vc (t_c f e p))].length) p s46 := c_B.put (cs := []) (c := (t_vc (t_c f e p))) hBB h46
        refine G_aload_n (i := 0) C 50 dX6_readOne_49 rfl rfl rfl ?_
        refine G_callv 53 (G_runV C Kc_X6_advance KV_X6_29 (by omega) (by decide) (eTp _ _ _) rfl (c_X6_advance 0 s46 (t_n f e p) e hBB_1.1.2.2.1 hBB_1.2.2.1 hnv.2 he160 (fun j hj => by rw [hBB_1.2.1]; exact hb j hj)) rfl rfl rfl (Nat.le_of_ble_eq_true rfl) rfl dX6_readOne_50) rfl (fun s50 h50 => ?_)
        have hF_2 : c_F t z s s50 := c_F.tr hF_1 (c_N.F (c_B.adv hBB_1 h50).1)
        have hS_2 : c_S s50 t z [(t_vc (t_c f e p))] := c_S_N hS_1 (c_B.adv hBB_1 h50).1
        have hBB_2 : c_B f e t (z + [(t_vc (t_c f e p))].length) (t_n f e p) s50 := (c_B.adv hBB_1 h50).2
        refine G_iconst (v := 1) C 54 dX6_readOne_53 rfl rfl ?_
        exact G_zret C rfl dX6_readOne_54 (⟨hF_2, Or.inl ⟨rfl, (t_n f e p), [(t_vc (t_c f e p))], hBB_2.1, hS_2, hnv.1, hnv.2, hnv.1, c_go_v hpe hV⟩⟩)
      ·
        exact absurd c31 (fun y => c5 (Sx1.trans (Sx27.symm.trans y)))
theorem dX6_readTerm_0 : decode cX6_readTerm 0 = .ok (.aload_n 0, 1) := by decide +kernel
theorem dX6_readTerm_1 : decode cX6_readTerm 1 = .ok (.iload_n 1, 1) := by decide +kernel
theorem dX6_readTerm_2 : decode cX6_readTerm 2 = .ok (.invokevirtual 61, 3) := by decide +kernel
theorem dX6_readTerm_5 : decode cX6_readTerm 5 = .ok (.ifCond .ne 5, 3) := by decide +kernel
theorem dX6_readTerm_8 : decode cX6_readTerm 8 = .ok (.iconst 0, 1) := by decide +kernel
theorem dX6_readTerm_9 : decode cX6_readTerm 9 = .ok (.ireturn, 1) := by decide +kernel
theorem dX6_readTerm_10 : decode cX6_readTerm 10 = .ok (.iconst 0, 1) := by decide +kernel
theorem dX6_readTerm_11 : decode cX6_readTerm 11 = .ok (.istore_n 2, 1) := by decide +kernel
theorem dX6_readTerm_12 : decode cX6_readTerm 12 = .ok (.iload_n 2, 1) := by decide +kernel
theorem dX6_readTerm_13 : decode cX6_readTerm 13 = .ok (.sipush 160, 3) := by decide +kernel
theorem dX6_readTerm_16 : decode cX6_readTerm 16 = .ok (.if_icmp .ge 41, 3) := by decide +kernel
theorem dX6_readTerm_19 : decode cX6_readTerm 19 = .ok (.aload_n 0, 1) := by decide +kernel
theorem dX6_readTerm_20 : decode cX6_readTerm 20 = .ok (.getfield 32, 3) := by decide +kernel
theorem dX6_readTerm_23 : decode cX6_readTerm 23 = .ok (.bipush 42, 2) := by decide +kernel
theorem dX6_readTerm_25 : decode cX6_readTerm 25 = .ok (.if_icmp .ne 32, 3) := by decide +kernel
theorem dX6_readTerm_28 : decode cX6_readTerm 28 = .ok (.aload_n 0, 1) := by decide +kernel
theorem dX6_readTerm_29 : decode cX6_readTerm 29 = .ok (.invokevirtual 29, 3) := by decide +kernel
theorem dX6_readTerm_32 : decode cX6_readTerm 32 = .ok (.aload_n 0, 1) := by decide +kernel
theorem dX6_readTerm_33 : decode cX6_readTerm 33 = .ok (.iload_n 1, 1) := by decide +kernel
theorem dX6_readTerm_34 : decode cX6_readTerm 34 = .ok (.invokevirtual 61, 3) := by decide +kernel
theorem dX6_readTerm_37 : decode cX6_readTerm 37 = .ok (.ifCond .ne 5, 3) := by decide +kernel
theorem dX6_readTerm_40 : decode cX6_readTerm 40 = .ok (.iconst 0, 1) := by decide +kernel
theorem dX6_readTerm_41 : decode cX6_readTerm 41 = .ok (.ireturn, 1) := by decide +kernel
theorem dX6_readTerm_42 : decode cX6_readTerm 42 = .ok (.aload_n 0, 1) := by decide +kernel
theorem dX6_readTerm_43 : decode cX6_readTerm 43 = .ok (.getfield 19, 3) := by decide +kernel
theorem dX6_readTerm_46 : decode cX6_readTerm 46 = .ok (.bipush (-42), 2) := by decide +kernel
theorem dX6_readTerm_48 : decode cX6_readTerm 48 = .ok (.invokevirtual 48, 3) := by decide +kernel
theorem dX6_readTerm_51 : decode cX6_readTerm 51 = .ok (.iinc 2 1, 3) := by decide +kernel
theorem dX6_readTerm_54 : decode cX6_readTerm 54 = .ok (.goto (-42), 3) := by decide +kernel
theorem dX6_readTerm_57 : decode cX6_readTerm 57 = .ok (.iconst 1, 1) := by decide +kernel
theorem dX6_readTerm_58 : decode cX6_readTerm 58 = .ok (.ireturn, 1) := by decide +kernel
set_option maxHeartbeats 4000000 in
set_option maxRecDepth 100000 in
theorem c_X6_readTerm (n o : Nat) (hon : o + n = 5) (hIn : c_C yX6_readOne cX6_readOne 2 (8 + 6 * n) 7 o) (d : Nat) (f : Nat → Int32) (e t z p : Nat) (s : gS) (v : Int32) (hv : v = nI o) (hB : c_B f e t z p s) (hpe : p ≤ e) (hzp : z ≤ p) (he160 : e ≤ 160) (ht6 : t < 6) (hb : ∀ j, j < e → ∃ v, v < 256 ∧ f j = nI v) : gMt SC yX6_readTerm cX6_readTerm 3 (some .boolean) (d + (9 + 6 * n)) (fun ad => [.ref (ad 3), .int v]) s (gQi SC (fun r s' => c_Q f e t z 6 o p s r s')) := by
  refine gMt_of SC_ok (by decide +kernel) (fun ad => [some (.ref (ad 3)), some (.int v), none]) (fun _ => rfl) (fun _ => rfl) (fun _ => Nat.le_of_ble_eq_true rfl) (fun E C0 => ?_)
  have C : gCx SC E RX6 cX6_readTerm 3 (some .boolean) (d + (9 + 6 * n)) := C0
  have hF : c_F t z s s := c_F.rf
  have hS : c_S s t z ([] : List Nat) := c_S0 hB.2.2.2.2
  have hBB : c_B f e t z p s := hB
  refine G_aload_n (i := 0) C 1 dX6_readTerm_0 rfl rfl rfl ?_
  refine G_iload_n (i := 1) C 2 dX6_readTerm_1 rfl rfl rfl ?_
  refine G_calli 5 (G_runV C Kc_X6_readOne KV_X6_61 (by omega) (by decide) (eTp _ _ _) rfl (hIn 0 f e t z p s v hv hBB hpe (by omega) he160 ht6 hb) rfl rfl rfl (Nat.le_of_ble_eq_true rfl) rfl dX6_readTerm_2) rfl (fun x2 s2 h2 => ?_)
  have hF_1 : c_F t z s s2 := c_F.tr hF (c_F.le h2.1 (by omega))
  refine G_if_ne C 10 8 dX6_readTerm_5 rfl rfl (fun c5 => ?_) (fun c5 => ?_)
  ·
    obtain ⟨p1, cs1, hT1, hS1, hlt1, hle1, hl1, hg1⟩ := (h2.2.resolve_right (fun y => c5 y.1)).2
    have hSn1 : c_S s2 t z cs1 := c_S_app (a := ([] : List Nat)) hS hS1 h2.1
    have hBn1 : c_B f e t (z + cs1.length) p1 s2 := c_B.sub (cs := ([] : List Nat)) hBB h2.1 hT1 hS1
    clear h2
    refine G_iconst (v := 0) C 11 dX6_readTerm_10 rfl rfl ?_
    refine G_istore_n (i := 2) (L' := [some (.ref (e_ad E 3)), some (.int v), some (.int 0)]) C 12 dX6_readTerm_11 rfl rfl (Nat.le_of_ble_eq_true rfl) rfl rfl ?_
    have L12 : ∀ (f12 : Nat) (k q : Nat) (cs : List Nat) (w : Int32) (sl12 : gS) (Ew : w = nI k) (hk1 : k < q) (hq1 : p < q) (hq2 : q ≤ e) (hq3 : p + cs.length ≤ q) (hlp : c_lp f e 6 7 o p q cs) (hFl12 : c_F t z s sl12) (hSl12 : c_S sl12 t z cs) (hBBl12 : c_B f e t (z + cs.length) q sl12), e < q + f12 → GW SC E (gFin SC E (gQi SC (fun r s' => c_Q f e t z 6 o p s r s'))) 12 [some (.ref (e_ad E 3)), some (.int v), some (.int w)] [] sl12 := by
      intro f12
      induction f12 with
      | zero =>
        intro k q cs w sl12 Ew hk1 hq1 hq2 hq3 hlp hFl12 hSl12 hBBl12 hf12
        exact absurd hf12 (by omega)
      | succ f12 ih12 =>
        intro k q cs w sl12 Ew hk1 hq1 hq2 hq3 hlp hFl12 hSl12 hBBl12 hf12
        refine G_iload_n (i := 2) C 13 dX6_readTerm_12 rfl rfl rfl ?_
        refine G_sipush (v := 160) C 16 dX6_readTerm_13 rfl rfl ?_
        refine G_icmp_ge C 57 19 dX6_readTerm_16 rfl rfl (fun c16 => ?_) (fun c16 => ?_)
        ·
          have n16 : ¬ k < 160 := fun hq_ => c16 ((g_ltN (a := k) (b := 160) (hx := Ew) (hy := rfl) (by omega) (by omega)).mpr hq_)
          exfalso; omega
        ·
          have n16 : k < 160 := (g_ltN (a := k) (b := 160) (hx := Ew) (hy := rfl) (by omega) (by omega)).mp c16
          refine G_aload_n (i := 0) C 20 dX6_readTerm_19 rfl rfl rfl ?_
          refine X6_32g C 23 dX6_readTerm_20 rfl (fun x20 ex20 => ?_)
          have Sx20 : x20 = c_tk (t_c f e q) := ex20.trans hBBl12.1.1
          refine G_bipush (v := 42) C 25 dX6_readTerm_23 rfl rfl ?_
          refine G_icmp_ne C 57 28 dX6_readTerm_25 rfl rfl (fun c25 => ?_) (fun c25 => ?_)
          ·
            have hk25 : ¬ t_c f e q = 18 := fun z => c25 (Sx20.trans (by rw [z]; decide +kernel))
            refine G_iconst (v := 1) C 58 dX6_readTerm_57 rfl rfl ?_
            exact G_zret C rfl dX6_readTerm_58 (⟨hFl12, Or.inl ⟨rfl, q, cs, hBBl12.1, hSl12, hq1, hq2, hq3, c_lpe rfl hlp (c_nx_6 hk25)⟩⟩)
          ·
            have hc25 : t_c f e q = 18 := c_tk_eq (t_c_ok f e q) (by unfold t_okc; omega) (by decide) (Sx20.symm.trans (c25.trans (by decide +kernel : (42 : Int32) = c_tk 18)))
            have hn25 := t_n_lt hq2 (by rw [hc25]; decide : ¬ t_c f e q = 0)
            refine G_aload_n (i := 0) C 29 dX6_readTerm_28 rfl rfl rfl ?_
            refine G_callv 32 (G_runV C Kc_X6_advance KV_X6_29 (by omega) (by decide) (eTp _ _ _) rfl (c_X6_advance 0 sl12 (t_n f e q) e hBBl12.1.2.2.1 hBBl12.2.2.1 hn25.2 he160 (fun j hj => by rw [hBBl12.2.1]; exact hb j hj)) rfl rfl rfl (Nat.le_of_ble_eq_true rfl) rfl dX6_readTerm_29) rfl (fun s29 h29 => ?_)
            have hF_2 : c_F t z s s29 := c_F.tr hFl12 (c_N.F (c_B.adv hBBl12 h29).1)
            have hS_1 : c_S s29 t z cs := c_S_N hSl12 (c_B.adv hBBl12 h29).1
            have hBB_1 : c_B f e t (z + cs.length) (t_n f e q) s29 := (c_B.adv hBBl12 h29).2
            refine G_aload_n (i := 0) C 33 dX6_readTerm_32 rfl rfl rfl ?_
            refine G_iload_n (i := 1) C 34 dX6_readTerm_33 rfl rfl rfl ?_
            refine G_calli 37 (G_runV C Kc_X6_readOne KV_X6_61 (by omega) (by decide) (eTp _ _ _) rfl (hIn 0 f e t (z + cs.length) (t_n f e q) s29 v hv hBB_1 hn25.2 (by omega) he160 ht6 hb) rfl rfl rfl (Nat.le_of_ble_eq_true rfl) rfl dX6_readTerm_34) rfl (fun x34 s34 h34 => ?_)
            have hF_3 : c_F t z s s34 := c_F.tr hF_2 (c_F.le h34.1 (by omega))
            refine G_if_ne C 42 40 dX6_readTerm_37 rfl rfl (fun c37 => ?_) (fun c37 => ?_)
            ·
              obtain ⟨p2, cs2, hT2, hS2, hlt2, hle2, hl2, hg2⟩ := (h34.2.resolve_right (fun y => c37 y.1)).2
              have hSn2 : c_S s34 t z (cs ++ cs2) := c_S_app (a := cs) hS_1 hS2 h34.1
              have hBn2 : c_B f e t (z + (cs ++ cs2).length) p2 s34 := c_B.sub (cs := cs) hBB_1 h34.1 hT2 hS2
              clear h34
              refine G_aload_n (i := 0) C 43 dX6_readTerm_42 rfl rfl rfl ?_
              refine X6_19g C 46 t ht6 hBn2.2.2.2.1 dX6_readTerm_43 rfl ?_
              refine G_bipush (v := (-42)) C 48 dX6_readTerm_46 rfl rfl ?_
              refine G_callv 51 (G_runV C Kc_X7_add KV_X6_48 (by omega) (lT0 ht6) (eTx _ _ _ ht6) rfl (c_X7_add 0 s34 t (z + (cs ++ cs2).length) ht6 hBn2.2.2.2.2 (by simp only [List.length_append]; omega) (-42)) rfl rfl rfl (Nat.le_of_ble_eq_true rfl) rfl dX6_readTerm_48) rfl (fun s48 h48 => ?_)
              have hF_4 : c_F t z s s48 := c_F.tr hF_3 (c_F.le (c_S_put hSn2 (by decide +kernel : (-42 : Int32) = x_cl 18) h48).2 (by omega))
              have hS_2 : c_S s48 t z ((cs ++ cs2) ++ [18]) := (c_S_put hSn2 (by decide +kernel : (-42 : Int32) = x_cl 18) h48).1
              have hBB_2 : c_B f e t (z + ((cs ++ cs2) ++ [18]).length) p2 s48 := c_B.put (cs := (cs ++ cs2)) (c := 18) hBn2 h48
              refine G_iinc (w := 1) C 54 dX6_readTerm_51 rfl rfl rfl rfl (fun x51 ex51 => ?_)
              have Nx51 : x51 = nI (k + 1) := g_addN ex51 Ew rfl
              show GW SC E _ 54 [some (.ref (e_ad E 3)), some (.int v), some (.int x51)] [] s48
              refine G_goto C 12 dX6_readTerm_54 rfl ?_
              exact ih12 (k + 1) p2 ((cs ++ cs2) ++ [18]) x51 s48 (g_cn (a := (k + 1)) Nx51 (by first | rfl | omega | (simp only [List.length_cons, List.length_drop]; done) | (simp only [List.length_cons, List.length_drop]; omega))) (by omega) (by omega) (by omega) (by simp only [List.length_append, List.length_cons, List.length_nil]; omega) (c_lps hq2 (by decide) (by decide) (by decide) (by unfold t_isB; omega) rfl rfl hlp hc25 hg2) hF_4 (hS_2) (hBB_2) (by omega)
            ·
              obtain ⟨p2, hT2, hle2, hg2⟩ := (h34.2.resolve_left (fun y => absurd (y.1.symm.trans c37) (by decide))).2
              clear h34
              refine G_iconst (v := 0) C 41 dX6_readTerm_40 rfl rfl ?_
              exact G_zret C rfl dX6_readTerm_41 (⟨hF_3, Or.inr ⟨rfl, p2, hT2, hle2, c_lpn hq2 rfl (by decide) (by decide) (by unfold t_isB; omega) rfl rfl hlp hc25 hg2⟩⟩)
    exact L12 (e + 1) 0 p1 cs1 0 s2 (g_cn (a := 0) rfl (by first | rfl | omega)) (by omega) (by omega) (by omega) (by omega) (c_lp0 (by decide) (by decide) rfl hg1) hF_1 (hSn1) (hBn1) (by omega)
  ·
    obtain ⟨p1, hT1, hle1, hg1⟩ := (h2.2.resolve_left (fun y => absurd (y.1.symm.trans c5) (by decide))).2
    clear h2
    refine G_iconst (v := 0) C 9 dX6_readTerm_8 rfl rfl ?_
    exact G_zret C rfl dX6_readTerm_9 (⟨hF_1, Or.inr ⟨rfl, p1, hT1, hle1, c_no0 (W := 7) (by decide) rfl hg1⟩⟩)
theorem dX6_readSum_0 : decode cX6_readSum 0 = .ok (.aload_n 0, 1) := by decide +kernel
theorem dX6_readSum_1 : decode cX6_readSum 1 = .ok (.iload_n 1, 1) := by decide +kernel
theorem dX6_readSum_2 : decode cX6_readSum 2 = .ok (.invokevirtual 58, 3) := by decide +kernel
theorem dX6_readSum_5 : decode cX6_readSum 5 = .ok (.ifCond .ne 5, 3) := by decide +kernel
theorem dX6_readSum_8 : decode cX6_readSum 8 = .ok (.iconst 0, 1) := by decide +kernel
theorem dX6_readSum_9 : decode cX6_readSum 9 = .ok (.ireturn, 1) := by decide +kernel
theorem dX6_readSum_10 : decode cX6_readSum 10 = .ok (.iconst 0, 1) := by decide +kernel
theorem dX6_readSum_11 : decode cX6_readSum 11 = .ok (.istore_n 2, 1) := by decide +kernel
theorem dX6_readSum_12 : decode cX6_readSum 12 = .ok (.iload_n 2, 1) := by decide +kernel
theorem dX6_readSum_13 : decode cX6_readSum 13 = .ok (.sipush 160, 3) := by decide +kernel
theorem dX6_readSum_16 : decode cX6_readSum 16 = .ok (.if_icmp .ge 55, 3) := by decide +kernel
theorem dX6_readSum_19 : decode cX6_readSum 19 = .ok (.aload_n 0, 1) := by decide +kernel
theorem dX6_readSum_20 : decode cX6_readSum 20 = .ok (.getfield 32, 3) := by decide +kernel
theorem dX6_readSum_23 : decode cX6_readSum 23 = .ok (.bipush 43, 2) := by decide +kernel
theorem dX6_readSum_25 : decode cX6_readSum 25 = .ok (.if_icmp .eq 12, 3) := by decide +kernel
theorem dX6_readSum_28 : decode cX6_readSum 28 = .ok (.aload_n 0, 1) := by decide +kernel
theorem dX6_readSum_29 : decode cX6_readSum 29 = .ok (.getfield 32, 3) := by decide +kernel
theorem dX6_readSum_32 : decode cX6_readSum 32 = .ok (.bipush 45, 2) := by decide +kernel
theorem dX6_readSum_34 : decode cX6_readSum 34 = .ok (.if_icmp .ne 37, 3) := by decide +kernel
theorem dX6_readSum_37 : decode cX6_readSum 37 = .ok (.aload_n 0, 1) := by decide +kernel
theorem dX6_readSum_38 : decode cX6_readSum 38 = .ok (.getfield 32, 3) := by decide +kernel
theorem dX6_readSum_41 : decode cX6_readSum 41 = .ok (.istore_n 3, 1) := by decide +kernel
theorem dX6_readSum_42 : decode cX6_readSum 42 = .ok (.aload_n 0, 1) := by decide +kernel
theorem dX6_readSum_43 : decode cX6_readSum 43 = .ok (.invokevirtual 29, 3) := by decide +kernel
theorem dX6_readSum_46 : decode cX6_readSum 46 = .ok (.aload_n 0, 1) := by decide +kernel
theorem dX6_readSum_47 : decode cX6_readSum 47 = .ok (.iload_n 1, 1) := by decide +kernel
theorem dX6_readSum_48 : decode cX6_readSum 48 = .ok (.invokevirtual 58, 3) := by decide +kernel
theorem dX6_readSum_51 : decode cX6_readSum 51 = .ok (.ifCond .ne 5, 3) := by decide +kernel
theorem dX6_readSum_54 : decode cX6_readSum 54 = .ok (.iconst 0, 1) := by decide +kernel
theorem dX6_readSum_55 : decode cX6_readSum 55 = .ok (.ireturn, 1) := by decide +kernel
theorem dX6_readSum_56 : decode cX6_readSum 56 = .ok (.aload_n 0, 1) := by decide +kernel
theorem dX6_readSum_57 : decode cX6_readSum 57 = .ok (.getfield 19, 3) := by decide +kernel
theorem dX6_readSum_60 : decode cX6_readSum 60 = .ok (.iload_n 3, 1) := by decide +kernel
theorem dX6_readSum_61 : decode cX6_readSum 61 = .ok (.ineg, 1) := by decide +kernel
theorem dX6_readSum_62 : decode cX6_readSum 62 = .ok (.invokevirtual 48, 3) := by decide +kernel
theorem dX6_readSum_65 : decode cX6_readSum 65 = .ok (.iinc 2 1, 3) := by decide +kernel
theorem dX6_readSum_68 : decode cX6_readSum 68 = .ok (.goto (-56), 3) := by decide +kernel
theorem dX6_readSum_71 : decode cX6_readSum 71 = .ok (.iconst 1, 1) := by decide +kernel
theorem dX6_readSum_72 : decode cX6_readSum 72 = .ok (.ireturn, 1) := by decide +kernel
set_option maxHeartbeats 4000000 in
set_option maxRecDepth 100000 in
theorem c_X6_readSum (n o : Nat) (hon : o + n = 5) (hIn : c_C yX6_readTerm cX6_readTerm 3 (9 + 6 * n) 6 o) (d : Nat) (f : Nat → Int32) (e t z p : Nat) (s : gS) (v : Int32) (hv : v = nI o) (hB : c_B f e t z p s) (hpe : p ≤ e) (hzp : z ≤ p) (he160 : e ≤ 160) (ht6 : t < 6) (hb : ∀ j, j < e → ∃ v, v < 256 ∧ f j = nI v) : gMt SC yX6_readSum cX6_readSum 4 (some .boolean) (d + (10 + 6 * n)) (fun ad => [.ref (ad 3), .int v]) s (gQi SC (fun r s' => c_Q f e t z 5 o p s r s')) := by
  refine gMt_of SC_ok (by decide +kernel) (fun ad => [some (.ref (ad 3)), some (.int v), none, none]) (fun _ => rfl) (fun _ => rfl) (fun _ => Nat.le_of_ble_eq_true rfl) (fun E C0 => ?_)
  have C : gCx SC E RX6 cX6_readSum 4 (some .boolean) (d + (10 + 6 * n)) := C0
  have hF : c_F t z s s := c_F.rf
  have hS : c_S s t z ([] : List Nat) := c_S0 hB.2.2.2.2
  have hBB : c_B f e t z p s := hB
  refine G_aload_n (i := 0) C 1 dX6_readSum_0 rfl rfl rfl ?_
  refine G_iload_n (i := 1) C 2 dX6_readSum_1 rfl rfl rfl ?_
  refine G_calli 5 (G_runV C Kc_X6_readTerm KV_X6_58 (by omega) (by decide) (eTp _ _ _) rfl (hIn 0 f e t z p s v hv hBB hpe (by omega) he160 ht6 hb) rfl rfl rfl (Nat.le_of_ble_eq_true rfl) rfl dX6_readSum_2) rfl (fun x2 s2 h2 => ?_)
  have hF_1 : c_F t z s s2 := c_F.tr hF (c_F.le h2.1 (by omega))
  refine G_if_ne C 10 8 dX6_readSum_5 rfl rfl (fun c5 => ?_) (fun c5 => ?_)
  ·
    obtain ⟨p1, cs1, hT1, hS1, hlt1, hle1, hl1, hg1⟩ := (h2.2.resolve_right (fun y => c5 y.1)).2
    have hSn1 : c_S s2 t z cs1 := c_S_app (a := ([] : List Nat)) hS hS1 h2.1
    have hBn1 : c_B f e t (z + cs1.length) p1 s2 := c_B.sub (cs := ([] : List Nat)) hBB h2.1 hT1 hS1
    clear h2
    refine G_iconst (v := 0) C 11 dX6_readSum_10 rfl rfl ?_
    refine G_istore_n (i := 2) (L' := [some (.ref (e_ad E 3)), some (.int v), some (.int 0), none]) C 12 dX6_readSum_11 rfl rfl (Nat.le_of_ble_eq_true rfl) rfl rfl ?_
    have L12 : ∀ (f12 : Nat) (k q : Nat) (cs : List Nat) (w : Int32) (sl12 : gS) (Ew : w = nI k) (hk1 : k < q) (hq1 : p < q) (hq2 : q ≤ e) (hq3 : p + cs.length ≤ q) (hlp : c_lp f e 5 6 o p q cs) (hFl12 : c_F t z s sl12) (hSl12 : c_S sl12 t z cs) (hBBl12 : c_B f e t (z + cs.length) q sl12), e < q + f12 → GW SC E (gFin SC E (gQi SC (fun r s' => c_Q f e t z 5 o p s r s'))) 12 [some (.ref (e_ad E 3)), some (.int v), some (.int w), none] [] sl12 := by
      intro f12
      induction f12 with
      | zero =>
        intro k q cs w sl12 Ew hk1 hq1 hq2 hq3 hlp hFl12 hSl12 hBBl12 hf12
        exact absurd hf12 (by omega)
      | succ f12 ih12 =>
        intro k q cs w sl12 Ew hk1 hq1 hq2 hq3 hlp hFl12 hSl12 hBBl12 hf12
        refine G_iload_n (i := 2) C 13 dX6_readSum_12 rfl rfl rfl ?_
        refine G_sipush (v := 160) C 16 dX6_readSum_13 rfl rfl ?_
        refine G_icmp_ge C 71 19 dX6_readSum_16 rfl rfl (fun c16 => ?_) (fun c16 => ?_)
        ·
          have n16 : ¬ k < 160 := fun hq_ => c16 ((g_ltN (a := k) (b := 160) (hx := Ew) (hy := rfl) (by omega) (by omega)).mpr hq_)
          exfalso; omega
        ·
          have n16 : k < 160 := (g_ltN (a := k) (b := 160) (hx := Ew) (hy := rfl) (by omega) (by omega)).mp c16
          refine G_aload_n (i := 0) C 20 dX6_readSum_19 rfl rfl rfl ?_
          refine X6_32g C 23 dX6_readSum_20 rfl (fun x20 ex20 => ?_)
          have Sx20 : x20 = c_tk (t_c f e q) := ex20.trans hBBl12.1.1
          refine G_bipush (v := 43) C 25 dX6_readSum_23 rfl rfl ?_
          refine G_icmp_eq C 37 28 dX6_readSum_25 rfl rfl (fun c25 => ?_) (fun c25 => ?_)
          ·
            have hc25 : t_c f e q = 16 := c_tk_eq (t_c_ok f e q) (by unfold t_okc; omega) (by decide) (Sx20.symm.trans (c25.trans (by decide +kernel : (43 : Int32) = c_tk 16)))
            have hn25 := t_n_lt hq2 (by rw [hc25]; decide : ¬ t_c f e q = 0)
            refine G_aload_n (i := 0) C 38 dX6_readSum_37 rfl rfl rfl ?_
            refine X6_32g C 41 dX6_readSum_38 rfl (fun x38 ex38 => ?_)
            have Sx38 : x38 = c_tk (t_c f e q) := ex38.trans hBBl12.1.1
            refine G_istore_n (i := 3) (L' := [some (.ref (e_ad E 3)), some (.int v), some (.int w), some (.int x38)]) C 42 dX6_readSum_41 rfl rfl (Nat.le_of_ble_eq_true rfl) rfl rfl ?_
            refine G_aload_n (i := 0) C 43 dX6_readSum_42 rfl rfl rfl ?_
            refine G_callv 46 (G_runV C Kc_X6_advance KV_X6_29 (by omega) (by decide) (eTp _ _ _) rfl (c_X6_advance 0 sl12 (t_n f e q) e hBBl12.1.2.2.1 hBBl12.2.2.1 hn25.2 he160 (fun j hj => by rw [hBBl12.2.1]; exact hb j hj)) rfl rfl rfl (Nat.le_of_ble_eq_true rfl) rfl dX6_readSum_43) rfl (fun s43 h43 => ?_)
            have hF_2 : c_F t z s s43 := c_F.tr hFl12 (c_N.F (c_B.adv hBBl12 h43).1)
            have hS_1 : c_S s43 t z cs := c_S_N hSl12 (c_B.adv hBBl12 h43).1
            have hBB_1 : c_B f e t (z + cs.length) (t_n f e q) s43 := (c_B.adv hBBl12 h43).2
            refine G_aload_n (i := 0) C 47 dX6_readSum_46 rfl rfl rfl ?_
            refine G_iload_n (i := 1) C 48 dX6_readSum_47 rfl rfl rfl ?_
            refine G_calli 51 (G_runV C Kc_X6_readTerm KV_X6_58 (by omega) (by decide) (eTp _ _ _) rfl (hIn 0 f e t (z + cs.length) (t_n f e q) s43 v hv hBB_1 hn25.2 (by omega) he160 ht6 hb) rfl rfl rfl (Nat.le_of_ble_eq_true rfl) rfl dX6_readSum_48) rfl (fun x48 s48 h48 => ?_)
            have hF_3 : c_F t z s s48 := c_F.tr hF_2 (c_F.le h48.1 (by omega))
            refine G_if_ne C 56 54 dX6_readSum_51 rfl rfl (fun c51 => ?_) (fun c51 => ?_)
            ·
              obtain ⟨p2, cs2, hT2, hS2, hlt2, hle2, hl2, hg2⟩ := (h48.2.resolve_right (fun y => c51 y.1)).2
              have hSn2 : c_S s48 t z (cs ++ cs2) := c_S_app (a := cs) hS_1 hS2 h48.1
              have hBn2 : c_B f e t (z + (cs ++ cs2).length) p2 s48 := c_B.sub (cs := cs) hBB_1 h48.1 hT2 hS2
              clear h48
              refine G_aload_n (i := 0) C 57 dX6_readSum_56 rfl rfl rfl ?_
              refine X6_19g C 60 t ht6 hBn2.2.2.2.1 dX6_readSum_57 rfl ?_
              refine G_iload_n (i := 3) C 61 dX6_readSum_60 rfl rfl rfl ?_
              refine G_ineg C 62 dX6_readSum_61 rfl (fun x61 ex61 => ?_)
              have hpv : x61 = x_cl 16 := by rw [ex61, Sx38, hc25]; decide +kernel
              refine G_callv 65 (G_runV C Kc_X7_add KV_X6_48 (by omega) (lT0 ht6) (eTx _ _ _ ht6) rfl (c_X7_add 0 s48 t (z + (cs ++ cs2).length) ht6 hBn2.2.2.2.2 (by simp only [List.length_append]; omega) x61) rfl rfl rfl (Nat.le_of_ble_eq_true rfl) rfl dX6_readSum_62) rfl (fun s62 h62 => ?_)
              have hF_4 : c_F t z s s62 := c_F.tr hF_3 (c_F.le (c_S_put hSn2 hpv h62).2 (by omega))
              have hS_2 : c_S s62 t z ((cs ++ cs2) ++ [16]) := (c_S_put hSn2 hpv h62).1
              have hBB_2 : c_B f e t (z + ((cs ++ cs2) ++ [16]).length) p2 s62 := c_B.put (cs := (cs ++ cs2)) (c := 16) hBn2 h62
              refine G_iinc (w := 1) C 68 dX6_readSum_65 rfl rfl rfl rfl (fun x65 ex65 => ?_)
              have Nx65 : x65 = nI (k + 1) := g_addN ex65 Ew rfl
              show GW SC E _ 68 [some (.ref (e_ad E 3)), some (.int v), some (.int x65), some (.int x38)] [] s62
              refine G_goto C 12 dX6_readSum_68 rfl ?_
              refine G_drop (L' := [some (.ref (e_ad E 3)), some (.int v), some (.int x65), none]) ⟨rfl, rfl, rfl, trivial⟩ ?_
              exact ih12 (k + 1) p2 ((cs ++ cs2) ++ [16]) x65 s62 (g_cn (a := (k + 1)) Nx65 (by first | rfl | omega | (simp only [List.length_cons, List.length_drop]; done) | (simp only [List.length_cons, List.length_drop]; omega))) (by omega) (by omega) (by omega) (by simp only [List.length_append, List.length_cons, List.length_nil]; omega) (c_lps hq2 (by decide) (by decide) (by decide) (by unfold t_isB; omega) rfl rfl hlp hc25 hg2) hF_4 (hS_2) (hBB_2) (by omega)
            ·
              obtain ⟨p2, hT2, hle2, hg2⟩ := (h48.2.resolve_left (fun y => absurd (y.1.symm.trans c51) (by decide))).2
              clear h48
              refine G_iconst (v := 0) C 55 dX6_readSum_54 rfl rfl ?_
              exact G_zret C rfl dX6_readSum_55 (⟨hF_3, Or.inr ⟨rfl, p2, hT2, hle2, c_lpn hq2 rfl (by decide) (by decide) (by unfold t_isB; omega) rfl rfl hlp hc25 hg2⟩⟩)
          ·
            have hk25 : ¬ t_c f e q = 16 := fun z => c25 (Sx20.trans (by rw [z]; decide +kernel))
            refine G_aload_n (i := 0) C 29 dX6_readSum_28 rfl rfl rfl ?_
            refine X6_32g C 32 dX6_readSum_29 rfl (fun x29 ex29 => ?_)
            have Sx29 : x29 = c_tk (t_c f e q) := ex29.trans hBBl12.1.1
            refine G_bipush (v := 45) C 34 dX6_readSum_32 rfl rfl ?_
            refine G_icmp_ne C 71 37 dX6_readSum_34 rfl rfl (fun c34 => ?_) (fun c34 => ?_)
            ·
              have hk34 : ¬ t_c f e q = 17 := fun z => c34 (Sx29.trans (by rw [z]; decide +kernel))
              refine G_iconst (v := 1) C 72 dX6_readSum_71 rfl rfl ?_
              exact G_zret C rfl dX6_readSum_72 (⟨hFl12, Or.inl ⟨rfl, q, cs, hBBl12.1, hSl12, hq1, hq2, hq3, c_lpe rfl hlp (c_nx_5 hk25 hk34)⟩⟩)
            ·
              have hc34 : t_c f e q = 17 := c_tk_eq (t_c_ok f e q) (by unfold t_okc; omega) (by decide) (Sx29.symm.trans (c34.trans (by decide +kernel : (45 : Int32) = c_tk 17)))
              have hn34 := t_n_lt hq2 (by rw [hc34]; decide : ¬ t_c f e q = 0)
              refine G_aload_n (i := 0) C 38 dX6_readSum_37 rfl rfl rfl ?_
              refine X6_32g C 41 dX6_readSum_38 rfl (fun x38 ex38 => ?_)
              have Sx38 : x38 = c_tk (t_c f e q) := ex38.trans hBBl12.1.1
              refine G_istore_n (i := 3) (L' := [some (.ref (e_ad E 3)), some (.int v), some (.int w), some (.int x38)]) C 42 dX6_readSum_41 rfl rfl (Nat.le_of_ble_eq_true rfl) rfl rfl ?_
              refine G_aload_n (i := 0) C 43 dX6_readSum_42 rfl rfl rfl ?_
              refine G_callv 46 (G_runV C Kc_X6_advance KV_X6_29 (by omega) (by decide) (eTp _ _ _) rfl (c_X6_advance 0 sl12 (t_n f e q) e hBBl12.1.2.2.1 hBBl12.2.2.1 hn34.2 he160 (fun j hj => by rw [hBBl12.2.1]; exact hb j hj)) rfl rfl rfl (Nat.le_of_ble_eq_true rfl) rfl dX6_readSum_43) rfl (fun s43 h43 => ?_)
              have hF_2 : c_F t z s s43 := c_F.tr hFl12 (c_N.F (c_B.adv hBBl12 h43).1)
              have hS_1 : c_S s43 t z cs := c_S_N hSl12 (c_B.adv hBBl12 h43).1
              have hBB_1 : c_B f e t (z + cs.length) (t_n f e q) s43 := (c_B.adv hBBl12 h43).2
              refine G_aload_n (i := 0) C 47 dX6_readSum_46 rfl rfl rfl ?_
              refine G_iload_n (i := 1) C 48 dX6_readSum_47 rfl rfl rfl ?_
              refine G_calli 51 (G_runV C Kc_X6_readTerm KV_X6_58 (by omega) (by decide) (eTp _ _ _) rfl (hIn 0 f e t (z + cs.length) (t_n f e q) s43 v hv hBB_1 hn34.2 (by omega) he160 ht6 hb) rfl rfl rfl (Nat.le_of_ble_eq_true rfl) rfl dX6_readSum_48) rfl (fun x48 s48 h48 => ?_)
              have hF_3 : c_F t z s s48 := c_F.tr hF_2 (c_F.le h48.1 (by omega))
              refine G_if_ne C 56 54 dX6_readSum_51 rfl rfl (fun c51 => ?_) (fun c51 => ?_)
              ·
                obtain ⟨p2, cs2, hT2, hS2, hlt2, hle2, hl2, hg2⟩ := (h48.2.resolve_right (fun y => c51 y.1)).2
                have hSn2 : c_S s48 t z (cs ++ cs2) := c_S_app (a := cs) hS_1 hS2 h48.1
                have hBn2 : c_B f e t (z + (cs ++ cs2).length) p2 s48 := c_B.sub (cs := cs) hBB_1 h48.1 hT2 hS2
                clear h48
                refine G_aload_n (i := 0) C 57 dX6_readSum_56 rfl rfl rfl ?_
                refine X6_19g C 60 t ht6 hBn2.2.2.2.1 dX6_readSum_57 rfl ?_
                refine G_iload_n (i := 3) C 61 dX6_readSum_60 rfl rfl rfl ?_
                refine G_ineg C 62 dX6_readSum_61 rfl (fun x61 ex61 => ?_)
                have hpv : x61 = x_cl 17 := by rw [ex61, Sx38, hc34]; decide +kernel
                refine G_callv 65 (G_runV C Kc_X7_add KV_X6_48 (by omega) (lT0 ht6) (eTx _ _ _ ht6) rfl (c_X7_add 0 s48 t (z + (cs ++ cs2).length) ht6 hBn2.2.2.2.2 (by simp only [List.length_append]; omega) x61) rfl rfl rfl (Nat.le_of_ble_eq_true rfl) rfl dX6_readSum_62) rfl (fun s62 h62 => ?_)
                have hF_4 : c_F t z s s62 := c_F.tr hF_3 (c_F.le (c_S_put hSn2 hpv h62).2 (by omega))
                have hS_2 : c_S s62 t z ((cs ++ cs2) ++ [17]) := (c_S_put hSn2 hpv h62).1
                have hBB_2 : c_B f e t (z + ((cs ++ cs2) ++ [17]).length) p2 s62 := c_B.put (cs := (cs ++ cs2)) (c := 17) hBn2 h62
                refine G_iinc (w := 1) C 68 dX6_readSum_65 rfl rfl rfl rfl (fun x65 ex65 => ?_)
                have Nx65 : x65 = nI (k + 1) := g_addN ex65 Ew rfl
                show GW SC E _ 68 [some (.ref (e_ad E 3)), some (.int v), some (.int x65), some (.int x38)] [] s62
                refine G_goto C 12 dX6_readSum_68 rfl ?_
                refine G_drop (L' := [some (.ref (e_ad E 3)), some (.int v), some (.int x65), none]) ⟨rfl, rfl, rfl, trivial⟩ ?_
                exact ih12 (k + 1) p2 ((cs ++ cs2) ++ [17]) x65 s62 (g_cn (a := (k + 1)) Nx65 (by first | rfl | omega | (simp only [List.length_cons, List.length_drop]; done) | (simp only [List.length_cons, List.length_drop]; omega))) (by omega) (by omega) (by omega) (by simp only [List.length_append, List.length_cons, List.length_nil]; omega) (c_lps hq2 (by decide) (by decide) (by decide) (by unfold t_isB; omega) rfl rfl hlp hc34 hg2) hF_4 (hS_2) (hBB_2) (by omega)
              ·
                obtain ⟨p2, hT2, hle2, hg2⟩ := (h48.2.resolve_left (fun y => absurd (y.1.symm.trans c51) (by decide))).2
                clear h48
                refine G_iconst (v := 0) C 55 dX6_readSum_54 rfl rfl ?_
                exact G_zret C rfl dX6_readSum_55 (⟨hF_3, Or.inr ⟨rfl, p2, hT2, hle2, c_lpn hq2 rfl (by decide) (by decide) (by unfold t_isB; omega) rfl rfl hlp hc34 hg2⟩⟩)
    exact L12 (e + 1) 0 p1 cs1 0 s2 (g_cn (a := 0) rfl (by first | rfl | omega)) (by omega) (by omega) (by omega) (by omega) (c_lp0 (by decide) (by decide) rfl hg1) hF_1 (hSn1) (hBn1) (by omega)
  ·
    obtain ⟨p1, hT1, hle1, hg1⟩ := (h2.2.resolve_left (fun y => absurd (y.1.symm.trans c5) (by decide))).2
    clear h2
    refine G_iconst (v := 0) C 9 dX6_readSum_8 rfl rfl ?_
    exact G_zret C rfl dX6_readSum_9 (⟨hF_1, Or.inr ⟨rfl, p1, hT1, hle1, c_no0 (W := 6) (by decide) rfl hg1⟩⟩)
theorem dX6_readNot_0 : decode cX6_readNot 0 = .ok (.aload_n 0, 1) := by decide +kernel
theorem dX6_readNot_1 : decode cX6_readNot 1 = .ok (.getfield 32, 3) := by decide +kernel
theorem dX6_readNot_4 : decode cX6_readNot 4 = .ok (.bipush 105, 2) := by decide +kernel
theorem dX6_readNot_6 : decode cX6_readNot 6 = .ok (.if_icmp .ne 37, 3) := by decide +kernel
theorem dX6_readNot_9 : decode cX6_readNot 9 = .ok (.iload_n 1, 1) := by decide +kernel
theorem dX6_readNot_10 : decode cX6_readNot 10 = .ok (.iconst 5, 1) := by decide +kernel
theorem dX6_readNot_11 : decode cX6_readNot 11 = .ok (.if_icmp .lt 5, 3) := by decide +kernel
theorem dX6_readNot_14 : decode cX6_readNot 14 = .ok (.iconst 0, 1) := by decide +kernel
theorem dX6_readNot_15 : decode cX6_readNot 15 = .ok (.ireturn, 1) := by decide +kernel
theorem dX6_readNot_16 : decode cX6_readNot 16 = .ok (.aload_n 0, 1) := by decide +kernel
theorem dX6_readNot_17 : decode cX6_readNot 17 = .ok (.invokevirtual 29, 3) := by decide +kernel
theorem dX6_readNot_20 : decode cX6_readNot 20 = .ok (.aload_n 0, 1) := by decide +kernel
theorem dX6_readNot_21 : decode cX6_readNot 21 = .ok (.iload_n 1, 1) := by decide +kernel
theorem dX6_readNot_22 : decode cX6_readNot 22 = .ok (.iconst 1, 1) := by decide +kernel
theorem dX6_readNot_23 : decode cX6_readNot 23 = .ok (.iadd, 1) := by decide +kernel
theorem dX6_readNot_24 : decode cX6_readNot 24 = .ok (.invokevirtual 52, 3) := by decide +kernel
theorem dX6_readNot_27 : decode cX6_readNot 27 = .ok (.ifCond .ne 5, 3) := by decide +kernel
theorem dX6_readNot_30 : decode cX6_readNot 30 = .ok (.iconst 0, 1) := by decide +kernel
theorem dX6_readNot_31 : decode cX6_readNot 31 = .ok (.ireturn, 1) := by decide +kernel
theorem dX6_readNot_32 : decode cX6_readNot 32 = .ok (.aload_n 0, 1) := by decide +kernel
theorem dX6_readNot_33 : decode cX6_readNot 33 = .ok (.getfield 19, 3) := by decide +kernel
theorem dX6_readNot_36 : decode cX6_readNot 36 = .ok (.bipush (-105), 2) := by decide +kernel
theorem dX6_readNot_38 : decode cX6_readNot 38 = .ok (.invokevirtual 48, 3) := by decide +kernel
theorem dX6_readNot_41 : decode cX6_readNot 41 = .ok (.iconst 1, 1) := by decide +kernel
theorem dX6_readNot_42 : decode cX6_readNot 42 = .ok (.ireturn, 1) := by decide +kernel
theorem dX6_readNot_43 : decode cX6_readNot 43 = .ok (.aload_n 0, 1) := by decide +kernel
theorem dX6_readNot_44 : decode cX6_readNot 44 = .ok (.iload_n 1, 1) := by decide +kernel
theorem dX6_readNot_45 : decode cX6_readNot 45 = .ok (.invokevirtual 55, 3) := by decide +kernel
theorem dX6_readNot_48 : decode cX6_readNot 48 = .ok (.ifCond .ne 5, 3) := by decide +kernel
theorem dX6_readNot_51 : decode cX6_readNot 51 = .ok (.iconst 0, 1) := by decide +kernel
theorem dX6_readNot_52 : decode cX6_readNot 52 = .ok (.ireturn, 1) := by decide +kernel
theorem dX6_readNot_53 : decode cX6_readNot 53 = .ok (.aload_n 0, 1) := by decide +kernel
theorem dX6_readNot_54 : decode cX6_readNot 54 = .ok (.getfield 32, 3) := by decide +kernel
theorem dX6_readNot_57 : decode cX6_readNot 57 = .ok (.istore_n 2, 1) := by decide +kernel
theorem dX6_readNot_58 : decode cX6_readNot 58 = .ok (.iload_n 2, 1) := by decide +kernel
theorem dX6_readNot_59 : decode cX6_readNot 59 = .ok (.bipush 60, 2) := by decide +kernel
theorem dX6_readNot_61 : decode cX6_readNot 61 = .ok (.if_icmp .eq 9, 3) := by decide +kernel
theorem dX6_readNot_64 : decode cX6_readNot 64 = .ok (.iload_n 2, 1) := by decide +kernel
theorem dX6_readNot_65 : decode cX6_readNot 65 = .ok (.bipush 61, 2) := by decide +kernel
theorem dX6_readNot_67 : decode cX6_readNot 67 = .ok (.if_icmp .ne 26, 3) := by decide +kernel
theorem dX6_readNot_70 : decode cX6_readNot 70 = .ok (.aload_n 0, 1) := by decide +kernel
theorem dX6_readNot_71 : decode cX6_readNot 71 = .ok (.invokevirtual 29, 3) := by decide +kernel
theorem dX6_readNot_74 : decode cX6_readNot 74 = .ok (.aload_n 0, 1) := by decide +kernel
theorem dX6_readNot_75 : decode cX6_readNot 75 = .ok (.iload_n 1, 1) := by decide +kernel
theorem dX6_readNot_76 : decode cX6_readNot 76 = .ok (.invokevirtual 55, 3) := by decide +kernel
theorem dX6_readNot_79 : decode cX6_readNot 79 = .ok (.ifCond .ne 5, 3) := by decide +kernel
theorem dX6_readNot_82 : decode cX6_readNot 82 = .ok (.iconst 0, 1) := by decide +kernel
theorem dX6_readNot_83 : decode cX6_readNot 83 = .ok (.ireturn, 1) := by decide +kernel
theorem dX6_readNot_84 : decode cX6_readNot 84 = .ok (.aload_n 0, 1) := by decide +kernel
theorem dX6_readNot_85 : decode cX6_readNot 85 = .ok (.getfield 19, 3) := by decide +kernel
theorem dX6_readNot_88 : decode cX6_readNot 88 = .ok (.iload_n 2, 1) := by decide +kernel
theorem dX6_readNot_89 : decode cX6_readNot 89 = .ok (.ineg, 1) := by decide +kernel
theorem dX6_readNot_90 : decode cX6_readNot 90 = .ok (.invokevirtual 48, 3) := by decide +kernel
theorem dX6_readNot_93 : decode cX6_readNot 93 = .ok (.iconst 1, 1) := by decide +kernel
theorem dX6_readNot_94 : decode cX6_readNot 94 = .ok (.ireturn, 1) := by decide +kernel
set_option maxHeartbeats 4000000 in
set_option maxRecDepth 100000 in
theorem c_X6_readNot (n o : Nat) (hon : o + n = 5) (hIn : c_C yX6_readSum cX6_readSum 4 (10 + 6 * n) 5 o) (ih : ∀ m o2, o2 + m = 5 → m < n → c_C yX6_readOne cX6_readOne 2 (8 + 6 * m) 7 o2 ∧ c_C yX6_readNot cX6_readNot 3 (11 + 6 * m) 3 o2 ∧ c_C yX6_readEither cX6_readEither 3 (13 + 6 * m) 1 o2) (d : Nat) (f : Nat → Int32) (e t z p : Nat) (s : gS) (v : Int32) (hv : v = nI o) (hB : c_B f e t z p s) (hpe : p ≤ e) (hzp : z ≤ p) (he160 : e ≤ 160) (ht6 : t < 6) (hb : ∀ j, j < e → ∃ v, v < 256 ∧ f j = nI v) : gMt SC yX6_readNot cX6_readNot 3 (some .boolean) (d + (11 + 6 * n)) (fun ad => [.ref (ad 3), .int v]) s (gQi SC (fun r s' => c_Q f e t z 3 o p s r s')) := by
  refine gMt_of SC_ok (by decide +kernel) (fun ad => [some (.ref (ad 3)), some (.int v), none]) (fun _ => rfl) (fun _ => rfl) (fun _ => Nat.le_of_ble_eq_true rfl) (fun E C0 => ?_)
  have C : gCx SC E RX6 cX6_readNot 3 (some .boolean) (d + (11 + 6 * n)) := C0
  have hF : c_F t z s s := c_F.rf
  have hS : c_S s t z ([] : List Nat) := c_S0 hB.2.2.2.2
  have hBB : c_B f e t z p s := hB
  refine G_aload_n (i := 0) C 1 dX6_readNot_0 rfl rfl rfl ?_
  refine X6_32g C 4 dX6_readNot_1 rfl (fun x1 ex1 => ?_)
  have Sx1 : x1 = c_tk (t_c f e p) := ex1.trans hBB.1.1
  refine G_bipush (v := 105) C 6 dX6_readNot_4 rfl rfl ?_
  refine G_icmp_ne C 43 9 dX6_readNot_6 rfl rfl (fun c6 => ?_) (fun c6 => ?_)
  ·
    have hk6 : ¬ t_c f e p = 13 := fun z => c6 (Sx1.trans (by rw [z]; decide +kernel))
    refine G_aload_n (i := 0) C 44 dX6_readNot_43 rfl rfl rfl ?_
    refine G_iload_n (i := 1) C 45 dX6_readNot_44 rfl rfl rfl ?_
    refine G_calli 48 (G_runV C Kc_X6_readSum KV_X6_55 (by omega) (by decide) (eTp _ _ _) rfl (hIn 0 f e t z p s v hv hBB hpe (by omega) he160 ht6 hb) rfl rfl rfl (Nat.le_of_ble_eq_true rfl) rfl dX6_readNot_45) rfl (fun x45 s45 h45 => ?_)
    have hF_1 : c_F t z s s45 := c_F.tr hF (c_F.le h45.1 (by omega))
    refine G_if_ne C 53 51 dX6_readNot_48 rfl rfl (fun c48 => ?_) (fun c48 => ?_)
    ·
      obtain ⟨p1, cs1, hT1, hS1, hlt1, hle1, hl1, hg1⟩ := (h45.2.resolve_right (fun y => c48 y.1)).2
      have hSn1 : c_S s45 t z cs1 := c_S_app (a := ([] : List Nat)) hS hS1 h45.1
      have hBn1 : c_B f e t (z + cs1.length) p1 s45 := c_B.sub (cs := ([] : List Nat)) hBB h45.1 hT1 hS1
      clear h45
      refine G_aload_n (i := 0) C 54 dX6_readNot_53 rfl rfl rfl ?_
      refine X6_32g C 57 dX6_readNot_54 rfl (fun x54 ex54 => ?_)
      have Sx54 : x54 = c_tk (t_c f e p1) := ex54.trans hBn1.1.1
      refine G_istore_n (i := 2) (L' := [some (.ref (e_ad E 3)), some (.int v), some (.int x54)]) C 58 dX6_readNot_57 rfl rfl (Nat.le_of_ble_eq_true rfl) rfl rfl ?_
      refine G_iload_n (i := 2) C 59 dX6_readNot_58 rfl rfl rfl ?_
      refine G_bipush (v := 60) C 61 dX6_readNot_59 rfl rfl ?_
      refine G_icmp_eq C 70 64 dX6_readNot_61 rfl rfl (fun c61 => ?_) (fun c61 => ?_)
      ·
        have hc61 : t_c f e p1 = 14 := c_tk_eq (t_c_ok f e p1) (by unfold t_okc; omega) (by decide) (Sx54.symm.trans (c61.trans (by decide +kernel : (60 : Int32) = c_tk 14)))
        have hn61 := t_n_lt hle1 (by rw [hc61]; decide : ¬ t_c f e p1 = 0)
        refine G_aload_n (i := 0) C 71 dX6_readNot_70 rfl rfl rfl ?_
        refine G_callv 74 (G_runV C Kc_X6_advance KV_X6_29 (by omega) (by decide) (eTp _ _ _) rfl (c_X6_advance 0 s45 (t_n f e p1) e hBn1.1.2.2.1 hBn1.2.2.1 hn61.2 he160 (fun j hj => by rw [hBn1.2.1]; exact hb j hj)) rfl rfl rfl (Nat.le_of_ble_eq_true rfl) rfl dX6_readNot_71) rfl (fun s71 h71 => ?_)
        have hF_2 : c_F t z s s71 := c_F.tr hF_1 (c_N.F (c_B.adv hBn1 h71).1)
        have hS_1 : c_S s71 t z cs1 := c_S_N hSn1 (c_B.adv hBn1 h71).1
        have hBB_1 : c_B f e t (z + cs1.length) (t_n f e p1) s71 := (c_B.adv hBn1 h71).2
        refine G_aload_n (i := 0) C 75 dX6_readNot_74 rfl rfl rfl ?_
        refine G_iload_n (i := 1) C 76 dX6_readNot_75 rfl rfl rfl ?_
        refine G_calli 79 (G_runV C Kc_X6_readSum KV_X6_55 (by omega) (by decide) (eTp _ _ _) rfl (hIn 0 f e t (z + cs1.length) (t_n f e p1) s71 v hv hBB_1 hn61.2 (by omega) he160 ht6 hb) rfl rfl rfl (Nat.le_of_ble_eq_true rfl) rfl dX6_readNot_76) rfl (fun x76 s76 h76 => ?_)
        have hF_3 : c_F t z s s76 := c_F.tr hF_2 (c_F.le h76.1 (by omega))
        refine G_if_ne C 84 82 dX6_readNot_79 rfl rfl (fun c79 => ?_) (fun c79 => ?_)
        ·
          obtain ⟨p2, cs2, hT2, hS2, hlt2, hle2, hl2, hg2⟩ := (h76.2.resolve_right (fun y => c79 y.1)).2
          have hSn2 : c_S s76 t z (cs1 ++ cs2) := c_S_app (a := cs1) hS_1 hS2 h76.1
          have hBn2 : c_B f e t (z + (cs1 ++ cs2).length) p2 s76 := c_B.sub (cs := cs1) hBB_1 h76.1 hT2 hS2
          clear h76
          refine G_aload_n (i := 0) C 85 dX6_readNot_84 rfl rfl rfl ?_
          refine X6_19g C 88 t ht6 hBn2.2.2.2.1 dX6_readNot_85 rfl ?_
          refine G_iload_n (i := 2) C 89 dX6_readNot_88 rfl rfl rfl ?_
          refine G_ineg C 90 dX6_readNot_89 rfl (fun x89 ex89 => ?_)
          have hpv : x89 = x_cl 14 := by rw [ex89, Sx54, hc61]; decide +kernel
          refine G_callv 93 (G_runV C Kc_X7_add KV_X6_48 (by omega) (lT0 ht6) (eTx _ _ _ ht6) rfl (c_X7_add 0 s76 t (z + (cs1 ++ cs2).length) ht6 hBn2.2.2.2.2 (by simp only [List.length_append]; omega) x89) rfl rfl rfl (Nat.le_of_ble_eq_true rfl) rfl dX6_readNot_90) rfl (fun s90 h90 => ?_)
          have hF_4 : c_F t z s s90 := c_F.tr hF_3 (c_F.le (c_S_put hSn2 hpv h90).2 (by omega))
          have hS_2 : c_S s90 t z ((cs1 ++ cs2) ++ [14]) := (c_S_put hSn2 hpv h90).1
          have hBB_2 : c_B f e t (z + ((cs1 ++ cs2) ++ [14]).length) p2 s90 := c_B.put (cs := (cs1 ++ cs2)) (c := 14) hBn2 h90
          refine G_iconst (v := 1) C 94 dX6_readNot_93 rfl rfl ?_
          exact G_zret C rfl dX6_readNot_94 (⟨hF_4, Or.inl ⟨rfl, p2, ((cs1 ++ cs2) ++ [14]), hBB_2.1, hS_2, (by omega), hle2, (by simp only [List.length_append, List.length_cons, List.length_nil]; omega), c_go_cmp hle1 hk6 hg1 hc61 (Or.inl rfl) hg2⟩⟩)
        ·
          obtain ⟨p2, hT2, hle2, hg2⟩ := (h76.2.resolve_left (fun y => absurd (y.1.symm.trans c79) (by decide))).2
          clear h76
          refine G_iconst (v := 0) C 83 dX6_readNot_82 rfl rfl ?_
          exact G_zret C rfl dX6_readNot_83 (⟨hF_3, Or.inr ⟨rfl, p2, hT2, hle2, c_no_cmp hle1 hk6 hg1 hc61 (Or.inl rfl) hg2⟩⟩)
      ·
        have hk61 : ¬ t_c f e p1 = 14 := fun z => c61 (Sx54.trans (by rw [z]; decide +kernel))
        refine G_iload_n (i := 2) C 65 dX6_readNot_64 rfl rfl rfl ?_
        refine G_bipush (v := 61) C 67 dX6_readNot_65 rfl rfl ?_
        refine G_icmp_ne C 93 70 dX6_readNot_67 rfl rfl (fun c67 => ?_) (fun c67 => ?_)
        ·
          have hk67 : ¬ t_c f e p1 = 15 := fun z => c67 (Sx54.trans (by rw [z]; decide +kernel))
          refine G_iconst (v := 1) C 94 dX6_readNot_93 rfl rfl ?_
          exact G_zret C rfl dX6_readNot_94 (⟨hF_1, Or.inl ⟨rfl, p1, cs1, hBn1.1, hSn1, (by omega), hle1, (by omega), c_go_sum hk6 hg1 hk61 hk67⟩⟩)
        ·
          have hc67 : t_c f e p1 = 15 := c_tk_eq (t_c_ok f e p1) (by unfold t_okc; omega) (by decide) (Sx54.symm.trans (c67.trans (by decide +kernel : (61 : Int32) = c_tk 15)))
          have hn67 := t_n_lt hle1 (by rw [hc67]; decide : ¬ t_c f e p1 = 0)
          refine G_aload_n (i := 0) C 71 dX6_readNot_70 rfl rfl rfl ?_
          refine G_callv 74 (G_runV C Kc_X6_advance KV_X6_29 (by omega) (by decide) (eTp _ _ _) rfl (c_X6_advance 0 s45 (t_n f e p1) e hBn1.1.2.2.1 hBn1.2.2.1 hn67.2 he160 (fun j hj => by rw [hBn1.2.1]; exact hb j hj)) rfl rfl rfl (Nat.le_of_ble_eq_true rfl) rfl dX6_readNot_71) rfl (fun s71 h71 => ?_)
          have hF_2 : c_F t z s s71 := c_F.tr hF_1 (c_N.F (c_B.adv hBn1 h71).1)
          have hS_1 : c_S s71 t z cs1 := c_S_N hSn1 (c_B.adv hBn1 h71).1
          have hBB_1 : c_B f e t (z + cs1.length) (t_n f e p1) s71 := (c_B.adv hBn1 h71).2
          refine G_aload_n (i := 0) C 75 dX6_readNot_74 rfl rfl rfl ?_
          refine G_iload_n (i := 1) C 76 dX6_readNot_75 rfl rfl rfl ?_
          refine G_calli 79 (G_runV C Kc_X6_readSum KV_X6_55 (by omega) (by decide) (eTp _ _ _) rfl (hIn 0 f e t (z + cs1.length) (t_n f e p1) s71 v hv hBB_1 hn67.2 (by omega) he160 ht6 hb) rfl rfl rfl (Nat.le_of_ble_eq_true rfl) rfl dX6_readNot_76) rfl (fun x76 s76 h76 => ?_)
          have hF_3 : c_F t z s s76 := c_F.tr hF_2 (c_F.le h76.1 (by omega))
          refine G_if_ne C 84 82 dX6_readNot_79 rfl rfl (fun c79 => ?_) (fun c79 => ?_)
          ·
            obtain ⟨p2, cs2, hT2, hS2, hlt2, hle2, hl2, hg2⟩ := (h76.2.resolve_right (fun y => c79 y.1)).2
            have hSn2 : c_S s76 t z (cs1 ++ cs2) := c_S_app (a := cs1) hS_1 hS2 h76.1
            have hBn2 : c_B f e t (z + (cs1 ++ cs2).length) p2 s76 := c_B.sub (cs := cs1) hBB_1 h76.1 hT2 hS2
            clear h76
            refine G_aload_n (i := 0) C 85 dX6_readNot_84 rfl rfl rfl ?_
            refine X6_19g C 88 t ht6 hBn2.2.2.2.1 dX6_readNot_85 rfl ?_
            refine G_iload_n (i := 2) C 89 dX6_readNot_88 rfl rfl rfl ?_
            refine G_ineg C 90 dX6_readNot_89 rfl (fun x89 ex89 => ?_)
            have hpv : x89 = x_cl 15 := by rw [ex89, Sx54, hc67]; decide +kernel
            refine G_callv 93 (G_runV C Kc_X7_add KV_X6_48 (by omega) (lT0 ht6) (eTx _ _ _ ht6) rfl (c_X7_add 0 s76 t (z + (cs1 ++ cs2).length) ht6 hBn2.2.2.2.2 (by simp only [List.length_append]; omega) x89) rfl rfl rfl (Nat.le_of_ble_eq_true rfl) rfl dX6_readNot_90) rfl (fun s90 h90 => ?_)
            have hF_4 : c_F t z s s90 := c_F.tr hF_3 (c_F.le (c_S_put hSn2 hpv h90).2 (by omega))
            have hS_2 : c_S s90 t z ((cs1 ++ cs2) ++ [15]) := (c_S_put hSn2 hpv h90).1
            have hBB_2 : c_B f e t (z + ((cs1 ++ cs2) ++ [15]).length) p2 s90 := c_B.put (cs := (cs1 ++ cs2)) (c := 15) hBn2 h90
            refine G_iconst (v := 1) C 94 dX6_readNot_93 rfl rfl ?_
            exact G_zret C rfl dX6_readNot_94 (⟨hF_4, Or.inl ⟨rfl, p2, ((cs1 ++ cs2) ++ [15]), hBB_2.1, hS_2, (by omega), hle2, (by simp only [List.length_append, List.length_cons, List.length_nil]; omega), c_go_cmp hle1 hk6 hg1 hc67 (Or.inr rfl) hg2⟩⟩)
          ·
            obtain ⟨p2, hT2, hle2, hg2⟩ := (h76.2.resolve_left (fun y => absurd (y.1.symm.trans c79) (by decide))).2
            clear h76
            refine G_iconst (v := 0) C 83 dX6_readNot_82 rfl rfl ?_
            exact G_zret C rfl dX6_readNot_83 (⟨hF_3, Or.inr ⟨rfl, p2, hT2, hle2, c_no_cmp hle1 hk6 hg1 hc67 (Or.inr rfl) hg2⟩⟩)
    ·
      obtain ⟨p1, hT1, hle1, hg1⟩ := (h45.2.resolve_left (fun y => absurd (y.1.symm.trans c48) (by decide))).2
      clear h45
      refine G_iconst (v := 0) C 52 dX6_readNot_51 rfl rfl ?_
      exact G_zret C rfl dX6_readNot_52 (⟨hF_1, Or.inr ⟨rfl, p1, hT1, hle1, c_no_sum hk6 hg1⟩⟩)
  ·
    have hc6 : t_c f e p = 13 := c_tk_eq (t_c_ok f e p) (by unfold t_okc; omega) (by decide) (Sx1.symm.trans (c6.trans (by decide +kernel : (105 : Int32) = c_tk 13)))
    have hn6 := t_n_lt hpe (by rw [hc6]; decide : ¬ t_c f e p = 0)
    refine G_iload_n (i := 1) C 10 dX6_readNot_9 rfl rfl rfl ?_
    refine G_iconst (v := 5) C 11 dX6_readNot_10 rfl rfl ?_
    refine G_icmp_lt C 16 14 dX6_readNot_11 rfl rfl (fun c11 => ?_) (fun c11 => ?_)
    ·
      have n11 : o < 5 := (g_ltN (a := o) (b := 5) (hx := hv) (hy := rfl) (by omega) (by omega)).mp c11
      refine G_aload_n (i := 0) C 17 dX6_readNot_16 rfl rfl rfl ?_
      refine G_callv 20 (G_runV C Kc_X6_advance KV_X6_29 (by omega) (by decide) (eTp _ _ _) rfl (c_X6_advance 0 s (t_n f e p) e hBB.1.2.2.1 hBB.2.2.1 hn6.2 he160 (fun j hj => by rw [hBB.2.1]; exact hb j hj)) rfl rfl rfl (Nat.le_of_ble_eq_true rfl) rfl dX6_readNot_17) rfl (fun s17 h17 => ?_)
      have hF_1 : c_F t z s s17 := c_F.tr hF (c_N.F (c_B.adv hBB h17).1)
      have hS_1 : c_S s17 t z ([] : List Nat) := c_S_N hS (c_B.adv hBB h17).1
      have hBB_1 : c_B f e t z (t_n f e p) s17 := (c_B.adv hBB h17).2
      refine G_aload_n (i := 0) C 21 dX6_readNot_20 rfl rfl rfl ?_
      refine G_iload_n (i := 1) C 22 dX6_readNot_21 rfl rfl rfl ?_
      refine G_iconst (v := 1) C 23 dX6_readNot_22 rfl rfl ?_
      refine G_iadd C 24 dX6_readNot_23 rfl (fun x23 ex23 => ?_)
      have Nx23 : x23 = nI (o + 1) := g_addN ex23 hv rfl
      refine G_calli 27 (G_runV C Kc_X6_readNot KV_X6_52 (by omega) (by decide) (eTp _ _ _) rfl ((ih (n - 1) (o + 1) (by omega) (by omega)).2.1 0 f e t z (t_n f e p) s17 x23 Nx23 hBB_1 hn6.2 (by omega) he160 ht6 hb) rfl rfl rfl (Nat.le_of_ble_eq_true rfl) rfl dX6_readNot_24) rfl (fun x24 s24 h24 => ?_)
      have hF_2 : c_F t z s s24 := c_F.tr hF_1 (c_F.le h24.1 (by omega))
      refine G_if_ne C 32 30 dX6_readNot_27 rfl rfl (fun c27 => ?_) (fun c27 => ?_)
      ·
        obtain ⟨p1, cs1, hT1, hS1, hlt1, hle1, hl1, hg1⟩ := (h24.2.resolve_right (fun y => c27 y.1)).2
        have hSn1 : c_S s24 t z cs1 := c_S_app (a := ([] : List Nat)) hS_1 hS1 h24.1
        have hBn1 : c_B f e t (z + cs1.length) p1 s24 := c_B.sub (cs := ([] : List Nat)) hBB_1 h24.1 hT1 hS1
        clear h24
        refine G_aload_n (i := 0) C 33 dX6_readNot_32 rfl rfl rfl ?_
        refine X6_19g C 36 t ht6 hBn1.2.2.2.1 dX6_readNot_33 rfl ?_
        refine G_bipush (v := (-105)) C 38 dX6_readNot_36 rfl rfl ?_
        refine G_callv 41 (G_runV C Kc_X7_add KV_X6_48 (by omega) (lT0 ht6) (eTx _ _ _ ht6) rfl (c_X7_add 0 s24 t (z + cs1.length) ht6 hBn1.2.2.2.2 (by omega) (-105)) rfl rfl rfl (Nat.le_of_ble_eq_true rfl) rfl dX6_readNot_38) rfl (fun s38 h38 => ?_)
        have hF_3 : c_F t z s s38 := c_F.tr hF_2 (c_F.le (c_S_put hSn1 (by decide +kernel : (-105 : Int32) = x_cl 13) h38).2 (by omega))
        have hS_2 : c_S s38 t z (cs1 ++ [13]) := (c_S_put hSn1 (by decide +kernel : (-105 : Int32) = x_cl 13) h38).1
        have hBB_2 : c_B f e t (z + (cs1 ++ [13]).length) p1 s38 := c_B.put (cs := cs1) (c := 13) hBn1 h38
        refine G_iconst (v := 1) C 42 dX6_readNot_41 rfl rfl ?_
        exact G_zret C rfl dX6_readNot_42 (⟨hF_3, Or.inl ⟨rfl, p1, (cs1 ++ [13]), hBB_2.1, hS_2, (by omega), hle1, (by simp only [List.length_append, List.length_cons, List.length_nil]; omega), c_go_not hpe hc6 n11 hg1⟩⟩)
      ·
        obtain ⟨p1, hT1, hle1, hg1⟩ := (h24.2.resolve_left (fun y => absurd (y.1.symm.trans c27) (by decide))).2
        clear h24
        refine G_iconst (v := 0) C 31 dX6_readNot_30 rfl rfl ?_
        exact G_zret C rfl dX6_readNot_31 (⟨hF_2, Or.inr ⟨rfl, p1, hT1, hle1, c_no_not hpe hc6 n11 hg1⟩⟩)
    ·
      have n11 : ¬ o < 5 := fun hq_ => c11 ((g_ltN (a := o) (b := 5) (hx := hv) (hy := rfl) (by omega) (by omega)).mpr hq_)
      refine G_iconst (v := 0) C 15 dX6_readNot_14 rfl rfl ?_
      exact G_zret C rfl dX6_readNot_15 (⟨hF, Or.inr ⟨rfl, p, hBB.1, hpe, (by rw [show o = 5 by omega]; exact c_no_n5 hpe hc6)⟩⟩)
theorem dX6_readBoth_0 : decode cX6_readBoth 0 = .ok (.aload_n 0, 1) := by decide +kernel
theorem dX6_readBoth_1 : decode cX6_readBoth 1 = .ok (.iload_n 1, 1) := by decide +kernel
theorem dX6_readBoth_2 : decode cX6_readBoth 2 = .ok (.invokevirtual 52, 3) := by decide +kernel
theorem dX6_readBoth_5 : decode cX6_readBoth 5 = .ok (.ifCond .ne 5, 3) := by decide +kernel
theorem dX6_readBoth_8 : decode cX6_readBoth 8 = .ok (.iconst 0, 1) := by decide +kernel
theorem dX6_readBoth_9 : decode cX6_readBoth 9 = .ok (.ireturn, 1) := by decide +kernel
theorem dX6_readBoth_10 : decode cX6_readBoth 10 = .ok (.iconst 0, 1) := by decide +kernel
theorem dX6_readBoth_11 : decode cX6_readBoth 11 = .ok (.istore_n 2, 1) := by decide +kernel
theorem dX6_readBoth_12 : decode cX6_readBoth 12 = .ok (.iload_n 2, 1) := by decide +kernel
theorem dX6_readBoth_13 : decode cX6_readBoth 13 = .ok (.sipush 160, 3) := by decide +kernel
theorem dX6_readBoth_16 : decode cX6_readBoth 16 = .ok (.if_icmp .ge 41, 3) := by decide +kernel
theorem dX6_readBoth_19 : decode cX6_readBoth 19 = .ok (.aload_n 0, 1) := by decide +kernel
theorem dX6_readBoth_20 : decode cX6_readBoth 20 = .ok (.getfield 32, 3) := by decide +kernel
theorem dX6_readBoth_23 : decode cX6_readBoth 23 = .ok (.bipush 104, 2) := by decide +kernel
theorem dX6_readBoth_25 : decode cX6_readBoth 25 = .ok (.if_icmp .ne 32, 3) := by decide +kernel
theorem dX6_readBoth_28 : decode cX6_readBoth 28 = .ok (.aload_n 0, 1) := by decide +kernel
theorem dX6_readBoth_29 : decode cX6_readBoth 29 = .ok (.invokevirtual 29, 3) := by decide +kernel
theorem dX6_readBoth_32 : decode cX6_readBoth 32 = .ok (.aload_n 0, 1) := by decide +kernel
theorem dX6_readBoth_33 : decode cX6_readBoth 33 = .ok (.iload_n 1, 1) := by decide +kernel
theorem dX6_readBoth_34 : decode cX6_readBoth 34 = .ok (.invokevirtual 52, 3) := by decide +kernel
theorem dX6_readBoth_37 : decode cX6_readBoth 37 = .ok (.ifCond .ne 5, 3) := by decide +kernel
theorem dX6_readBoth_40 : decode cX6_readBoth 40 = .ok (.iconst 0, 1) := by decide +kernel
theorem dX6_readBoth_41 : decode cX6_readBoth 41 = .ok (.ireturn, 1) := by decide +kernel
theorem dX6_readBoth_42 : decode cX6_readBoth 42 = .ok (.aload_n 0, 1) := by decide +kernel
theorem dX6_readBoth_43 : decode cX6_readBoth 43 = .ok (.getfield 19, 3) := by decide +kernel
theorem dX6_readBoth_46 : decode cX6_readBoth 46 = .ok (.bipush (-104), 2) := by decide +kernel
theorem dX6_readBoth_48 : decode cX6_readBoth 48 = .ok (.invokevirtual 48, 3) := by decide +kernel
theorem dX6_readBoth_51 : decode cX6_readBoth 51 = .ok (.iinc 2 1, 3) := by decide +kernel
theorem dX6_readBoth_54 : decode cX6_readBoth 54 = .ok (.goto (-42), 3) := by decide +kernel
theorem dX6_readBoth_57 : decode cX6_readBoth 57 = .ok (.iconst 1, 1) := by decide +kernel
theorem dX6_readBoth_58 : decode cX6_readBoth 58 = .ok (.ireturn, 1) := by decide +kernel
set_option maxHeartbeats 4000000 in
set_option maxRecDepth 100000 in
theorem c_X6_readBoth (n o : Nat) (hon : o + n = 5) (hIn : c_C yX6_readNot cX6_readNot 3 (11 + 6 * n) 3 o) (d : Nat) (f : Nat → Int32) (e t z p : Nat) (s : gS) (v : Int32) (hv : v = nI o) (hB : c_B f e t z p s) (hpe : p ≤ e) (hzp : z ≤ p) (he160 : e ≤ 160) (ht6 : t < 6) (hb : ∀ j, j < e → ∃ v, v < 256 ∧ f j = nI v) : gMt SC yX6_readBoth cX6_readBoth 3 (some .boolean) (d + (12 + 6 * n)) (fun ad => [.ref (ad 3), .int v]) s (gQi SC (fun r s' => c_Q f e t z 2 o p s r s')) := by
  refine gMt_of SC_ok (by decide +kernel) (fun ad => [some (.ref (ad 3)), some (.int v), none]) (fun _ => rfl) (fun _ => rfl) (fun _ => Nat.le_of_ble_eq_true rfl) (fun E C0 => ?_)
  have C : gCx SC E RX6 cX6_readBoth 3 (some .boolean) (d + (12 + 6 * n)) := C0
  have hF : c_F t z s s := c_F.rf
  have hS : c_S s t z ([] : List Nat) := c_S0 hB.2.2.2.2
  have hBB : c_B f e t z p s := hB
  refine G_aload_n (i := 0) C 1 dX6_readBoth_0 rfl rfl rfl ?_
  refine G_iload_n (i := 1) C 2 dX6_readBoth_1 rfl rfl rfl ?_
  refine G_calli 5 (G_runV C Kc_X6_readNot KV_X6_52 (by omega) (by decide) (eTp _ _ _) rfl (hIn 0 f e t z p s v hv hBB hpe (by omega) he160 ht6 hb) rfl rfl rfl (Nat.le_of_ble_eq_true rfl) rfl dX6_readBoth_2) rfl (fun x2 s2 h2 => ?_)
  have hF_1 : c_F t z s s2 := c_F.tr hF (c_F.le h2.1 (by omega))
  refine G_if_ne C 10 8 dX6_readBoth_5 rfl rfl (fun c5 => ?_) (fun c5 => ?_)
  ·
    obtain ⟨p1, cs1, hT1, hS1, hlt1, hle1, hl1, hg1⟩ := (h2.2.resolve_right (fun y => c5 y.1)).2
    have hSn1 : c_S s2 t z cs1 := c_S_app (a := ([] : List Nat)) hS hS1 h2.1
    have hBn1 : c_B f e t (z + cs1.length) p1 s2 := c_B.sub (cs := ([] : List Nat)) hBB h2.1 hT1 hS1
    clear h2
    refine G_iconst (v := 0) C 11 dX6_readBoth_10 rfl rfl ?_
    refine G_istore_n (i := 2) (L' := [some (.ref (e_ad E 3)), some (.int v), some (.int 0)]) C 12 dX6_readBoth_11 rfl rfl (Nat.le_of_ble_eq_true rfl) rfl rfl ?_
    have L12 : ∀ (f12 : Nat) (k q : Nat) (cs : List Nat) (w : Int32) (sl12 : gS) (Ew : w = nI k) (hk1 : k < q) (hq1 : p < q) (hq2 : q ≤ e) (hq3 : p + cs.length ≤ q) (hlp : c_lp f e 2 3 o p q cs) (hFl12 : c_F t z s sl12) (hSl12 : c_S sl12 t z cs) (hBBl12 : c_B f e t (z + cs.length) q sl12), e < q + f12 → GW SC E (gFin SC E (gQi SC (fun r s' => c_Q f e t z 2 o p s r s'))) 12 [some (.ref (e_ad E 3)), some (.int v), some (.int w)] [] sl12 := by
      intro f12
      induction f12 with
      | zero =>
        intro k q cs w sl12 Ew hk1 hq1 hq2 hq3 hlp hFl12 hSl12 hBBl12 hf12
        exact absurd hf12 (by omega)
      | succ f12 ih12 =>
        intro k q cs w sl12 Ew hk1 hq1 hq2 hq3 hlp hFl12 hSl12 hBBl12 hf12
        refine G_iload_n (i := 2) C 13 dX6_readBoth_12 rfl rfl rfl ?_
        refine G_sipush (v := 160) C 16 dX6_readBoth_13 rfl rfl ?_
        refine G_icmp_ge C 57 19 dX6_readBoth_16 rfl rfl (fun c16 => ?_) (fun c16 => ?_)
        ·
          have n16 : ¬ k < 160 := fun hq_ => c16 ((g_ltN (a := k) (b := 160) (hx := Ew) (hy := rfl) (by omega) (by omega)).mpr hq_)
          exfalso; omega
        ·
          have n16 : k < 160 := (g_ltN (a := k) (b := 160) (hx := Ew) (hy := rfl) (by omega) (by omega)).mp c16
          refine G_aload_n (i := 0) C 20 dX6_readBoth_19 rfl rfl rfl ?_
          refine X6_32g C 23 dX6_readBoth_20 rfl (fun x20 ex20 => ?_)
          have Sx20 : x20 = c_tk (t_c f e q) := ex20.trans hBBl12.1.1
          refine G_bipush (v := 104) C 25 dX6_readBoth_23 rfl rfl ?_
          refine G_icmp_ne C 57 28 dX6_readBoth_25 rfl rfl (fun c25 => ?_) (fun c25 => ?_)
          ·
            have hk25 : ¬ t_c f e q = 12 := fun z => c25 (Sx20.trans (by rw [z]; decide +kernel))
            refine G_iconst (v := 1) C 58 dX6_readBoth_57 rfl rfl ?_
            exact G_zret C rfl dX6_readBoth_58 (⟨hFl12, Or.inl ⟨rfl, q, cs, hBBl12.1, hSl12, hq1, hq2, hq3, c_lpe rfl hlp (c_nx_2 hk25)⟩⟩)
          ·
            have hc25 : t_c f e q = 12 := c_tk_eq (t_c_ok f e q) (by unfold t_okc; omega) (by decide) (Sx20.symm.trans (c25.trans (by decide +kernel : (104 : Int32) = c_tk 12)))
            have hn25 := t_n_lt hq2 (by rw [hc25]; decide : ¬ t_c f e q = 0)
            refine G_aload_n (i := 0) C 29 dX6_readBoth_28 rfl rfl rfl ?_
            refine G_callv 32 (G_runV C Kc_X6_advance KV_X6_29 (by omega) (by decide) (eTp _ _ _) rfl (c_X6_advance 0 sl12 (t_n f e q) e hBBl12.1.2.2.1 hBBl12.2.2.1 hn25.2 he160 (fun j hj => by rw [hBBl12.2.1]; exact hb j hj)) rfl rfl rfl (Nat.le_of_ble_eq_true rfl) rfl dX6_readBoth_29) rfl (fun s29 h29 => ?_)
            have hF_2 : c_F t z s s29 := c_F.tr hFl12 (c_N.F (c_B.adv hBBl12 h29).1)
            have hS_1 : c_S s29 t z cs := c_S_N hSl12 (c_B.adv hBBl12 h29).1
            have hBB_1 : c_B f e t (z + cs.length) (t_n f e q) s29 := (c_B.adv hBBl12 h29).2
            refine G_aload_n (i := 0) C 33 dX6_readBoth_32 rfl rfl rfl ?_
            refine G_iload_n (i := 1) C 34 dX6_readBoth_33 rfl rfl rfl ?_
            refine G_calli 37 (G_runV C Kc_X6_readNot KV_X6_52 (by omega) (by decide) (eTp _ _ _) rfl (hIn 0 f e t (z + cs.length) (t_n f e q) s29 v hv hBB_1 hn25.2 (by omega) he160 ht6 hb) rfl rfl rfl (Nat.le_of_ble_eq_true rfl) rfl dX6_readBoth_34) rfl (fun x34 s34 h34 => ?_)
            have hF_3 : c_F t z s s34 := c_F.tr hF_2 (c_F.le h34.1 (by omega))
            refine G_if_ne C 42 40 dX6_readBoth_37 rfl rfl (fun c37 => ?_) (fun c37 => ?_)
            ·
              obtain ⟨p2, cs2, hT2, hS2, hlt2, hle2, hl2, hg2⟩ := (h34.2.resolve_right (fun y => c37 y.1)).2
              have hSn2 : c_S s34 t z (cs ++ cs2) := c_S_app (a := cs) hS_1 hS2 h34.1
              have hBn2 : c_B f e t (z + (cs ++ cs2).length) p2 s34 := c_B.sub (cs := cs) hBB_1 h34.1 hT2 hS2
              clear h34
              refine G_aload_n (i := 0) C 43 dX6_readBoth_42 rfl rfl rfl ?_
              refine X6_19g C 46 t ht6 hBn2.2.2.2.1 dX6_readBoth_43 rfl ?_
              refine G_bipush (v := (-104)) C 48 dX6_readBoth_46 rfl rfl ?_
              refine G_callv 51 (G_runV C Kc_X7_add KV_X6_48 (by omega) (lT0 ht6) (eTx _ _ _ ht6) rfl (c_X7_add 0 s34 t (z + (cs ++ cs2).length) ht6 hBn2.2.2.2.2 (by simp only [List.length_append]; omega) (-104)) rfl rfl rfl (Nat.le_of_ble_eq_true rfl) rfl dX6_readBoth_48) rfl (fun s48 h48 => ?_)
              have hF_4 : c_F t z s s48 := c_F.tr hF_3 (c_F.le (c_S_put hSn2 (by decide +kernel : (-104 : Int32) = x_cl 12) h48).2 (by omega))
              have hS_2 : c_S s48 t z ((cs ++ cs2) ++ [12]) := (c_S_put hSn2 (by decide +kernel : (-104 : Int32) = x_cl 12) h48).1
              have hBB_2 : c_B f e t (z + ((cs ++ cs2) ++ [12]).length) p2 s48 := c_B.put (cs := (cs ++ cs2)) (c := 12) hBn2 h48
              refine G_iinc (w := 1) C 54 dX6_readBoth_51 rfl rfl rfl rfl (fun x51 ex51 => ?_)
              have Nx51 : x51 = nI (k + 1) := g_addN ex51 Ew rfl
              show GW SC E _ 54 [some (.ref (e_ad E 3)), some (.int v), some (.int x51)] [] s48
              refine G_goto C 12 dX6_readBoth_54 rfl ?_
              exact ih12 (k + 1) p2 ((cs ++ cs2) ++ [12]) x51 s48 (g_cn (a := (k + 1)) Nx51 (by first | rfl | omega | (simp only [List.length_cons, List.length_drop]; done) | (simp only [List.length_cons, List.length_drop]; omega))) (by omega) (by omega) (by omega) (by simp only [List.length_append, List.length_cons, List.length_nil]; omega) (c_lps hq2 (by decide) (by decide) (by decide) (by unfold t_isB; omega) rfl rfl hlp hc25 hg2) hF_4 (hS_2) (hBB_2) (by omega)
            ·
              obtain ⟨p2, hT2, hle2, hg2⟩ := (h34.2.resolve_left (fun y => absurd (y.1.symm.trans c37) (by decide))).2
              clear h34
              refine G_iconst (v := 0) C 41 dX6_readBoth_40 rfl rfl ?_
              exact G_zret C rfl dX6_readBoth_41 (⟨hF_3, Or.inr ⟨rfl, p2, hT2, hle2, c_lpn hq2 rfl (by decide) (by decide) (by unfold t_isB; omega) rfl rfl hlp hc25 hg2⟩⟩)
    exact L12 (e + 1) 0 p1 cs1 0 s2 (g_cn (a := 0) rfl (by first | rfl | omega)) (by omega) (by omega) (by omega) (by omega) (c_lp0 (by decide) (by decide) rfl hg1) hF_1 (hSn1) (hBn1) (by omega)
  ·
    obtain ⟨p1, hT1, hle1, hg1⟩ := (h2.2.resolve_left (fun y => absurd (y.1.symm.trans c5) (by decide))).2
    clear h2
    refine G_iconst (v := 0) C 9 dX6_readBoth_8 rfl rfl ?_
    exact G_zret C rfl dX6_readBoth_9 (⟨hF_1, Or.inr ⟨rfl, p1, hT1, hle1, c_no0 (W := 3) (by decide) rfl hg1⟩⟩)
theorem dX6_readEither_0 : decode cX6_readEither 0 = .ok (.aload_n 0, 1) := by decide +kernel
theorem dX6_readEither_1 : decode cX6_readEither 1 = .ok (.iload_n 1, 1) := by decide +kernel
theorem dX6_readEither_2 : decode cX6_readEither 2 = .ok (.invokevirtual 45, 3) := by decide +kernel
theorem dX6_readEither_5 : decode cX6_readEither 5 = .ok (.ifCond .ne 5, 3) := by decide +kernel
theorem dX6_readEither_8 : decode cX6_readEither 8 = .ok (.iconst 0, 1) := by decide +kernel
theorem dX6_readEither_9 : decode cX6_readEither 9 = .ok (.ireturn, 1) := by decide +kernel
theorem dX6_readEither_10 : decode cX6_readEither 10 = .ok (.iconst 0, 1) := by decide +kernel
theorem dX6_readEither_11 : decode cX6_readEither 11 = .ok (.istore_n 2, 1) := by decide +kernel
theorem dX6_readEither_12 : decode cX6_readEither 12 = .ok (.iload_n 2, 1) := by decide +kernel
theorem dX6_readEither_13 : decode cX6_readEither 13 = .ok (.sipush 160, 3) := by decide +kernel
theorem dX6_readEither_16 : decode cX6_readEither 16 = .ok (.if_icmp .ge 41, 3) := by decide +kernel
theorem dX6_readEither_19 : decode cX6_readEither 19 = .ok (.aload_n 0, 1) := by decide +kernel
theorem dX6_readEither_20 : decode cX6_readEither 20 = .ok (.getfield 32, 3) := by decide +kernel
theorem dX6_readEither_23 : decode cX6_readEither 23 = .ok (.bipush 103, 2) := by decide +kernel
theorem dX6_readEither_25 : decode cX6_readEither 25 = .ok (.if_icmp .ne 32, 3) := by decide +kernel
theorem dX6_readEither_28 : decode cX6_readEither 28 = .ok (.aload_n 0, 1) := by decide +kernel
theorem dX6_readEither_29 : decode cX6_readEither 29 = .ok (.invokevirtual 29, 3) := by decide +kernel
theorem dX6_readEither_32 : decode cX6_readEither 32 = .ok (.aload_n 0, 1) := by decide +kernel
theorem dX6_readEither_33 : decode cX6_readEither 33 = .ok (.iload_n 1, 1) := by decide +kernel
theorem dX6_readEither_34 : decode cX6_readEither 34 = .ok (.invokevirtual 45, 3) := by decide +kernel
theorem dX6_readEither_37 : decode cX6_readEither 37 = .ok (.ifCond .ne 5, 3) := by decide +kernel
theorem dX6_readEither_40 : decode cX6_readEither 40 = .ok (.iconst 0, 1) := by decide +kernel
theorem dX6_readEither_41 : decode cX6_readEither 41 = .ok (.ireturn, 1) := by decide +kernel
theorem dX6_readEither_42 : decode cX6_readEither 42 = .ok (.aload_n 0, 1) := by decide +kernel
theorem dX6_readEither_43 : decode cX6_readEither 43 = .ok (.getfield 19, 3) := by decide +kernel
theorem dX6_readEither_46 : decode cX6_readEither 46 = .ok (.bipush (-103), 2) := by decide +kernel
theorem dX6_readEither_48 : decode cX6_readEither 48 = .ok (.invokevirtual 48, 3) := by decide +kernel
theorem dX6_readEither_51 : decode cX6_readEither 51 = .ok (.iinc 2 1, 3) := by decide +kernel
theorem dX6_readEither_54 : decode cX6_readEither 54 = .ok (.goto (-42), 3) := by decide +kernel
theorem dX6_readEither_57 : decode cX6_readEither 57 = .ok (.iconst 1, 1) := by decide +kernel
theorem dX6_readEither_58 : decode cX6_readEither 58 = .ok (.ireturn, 1) := by decide +kernel
set_option maxHeartbeats 4000000 in
set_option maxRecDepth 100000 in
theorem c_X6_readEither (n o : Nat) (hon : o + n = 5) (hIn : c_C yX6_readBoth cX6_readBoth 3 (12 + 6 * n) 2 o) (d : Nat) (f : Nat → Int32) (e t z p : Nat) (s : gS) (v : Int32) (hv : v = nI o) (hB : c_B f e t z p s) (hpe : p ≤ e) (hzp : z ≤ p) (he160 : e ≤ 160) (ht6 : t < 6) (hb : ∀ j, j < e → ∃ v, v < 256 ∧ f j = nI v) : gMt SC yX6_readEither cX6_readEither 3 (some .boolean) (d + (13 + 6 * n)) (fun ad => [.ref (ad 3), .int v]) s (gQi SC (fun r s' => c_Q f e t z 1 o p s r s')) := by
  refine gMt_of SC_ok (by decide +kernel) (fun ad => [some (.ref (ad 3)), some (.int v), none]) (fun _ => rfl) (fun _ => rfl) (fun _ => Nat.le_of_ble_eq_true rfl) (fun E C0 => ?_)
  have C : gCx SC E RX6 cX6_readEither 3 (some .boolean) (d + (13 + 6 * n)) := C0
  have hF : c_F t z s s := c_F.rf
  have hS : c_S s t z ([] : List Nat) := c_S0 hB.2.2.2.2
  have hBB : c_B f e t z p s := hB
  refine G_aload_n (i := 0) C 1 dX6_readEither_0 rfl rfl rfl ?_
  refine G_iload_n (i := 1) C 2 dX6_readEither_1 rfl rfl rfl ?_
  refine G_calli 5 (G_runV C Kc_X6_readBoth KV_X6_45 (by omega) (by decide) (eTp _ _ _) rfl (hIn 0 f e t z p s v hv hBB hpe (by omega) he160 ht6 hb) rfl rfl rfl (Nat.le_of_ble_eq_true rfl) rfl dX6_readEither_2) rfl (fun x2 s2 h2 => ?_)
  have hF_1 : c_F t z s s2 := c_F.tr hF (c_F.le h2.1 (by omega))
  refine G_if_ne C 10 8 dX6_readEither_5 rfl rfl (fun c5 => ?_) (fun c5 => ?_)
  ·
    obtain ⟨p1, cs1, hT1, hS1, hlt1, hle1, hl1, hg1⟩ := (h2.2.resolve_right (fun y => c5 y.1)).2
    have hSn1 : c_S s2 t z cs1 := c_S_app (a := ([] : List Nat)) hS hS1 h2.1
    have hBn1 : c_B f e t (z + cs1.length) p1 s2 := c_B.sub (cs := ([] : List Nat)) hBB h2.1 hT1 hS1
    clear h2
    refine G_iconst (v := 0) C 11 dX6_readEither_10 rfl rfl ?_
    refine G_istore_n (i := 2) (L' := [some (.ref (e_ad E 3)), some (.int v), some (.int 0)]) C 12 dX6_readEither_11 rfl rfl (Nat.le_of_ble_eq_true rfl) rfl rfl ?_
    have L12 : ∀ (f12 : Nat) (k q : Nat) (cs : List Nat) (w : Int32) (sl12 : gS) (Ew : w = nI k) (hk1 : k < q) (hq1 : p < q) (hq2 : q ≤ e) (hq3 : p + cs.length ≤ q) (hlp : c_lp f e 1 2 o p q cs) (hFl12 : c_F t z s sl12) (hSl12 : c_S sl12 t z cs) (hBBl12 : c_B f e t (z + cs.length) q sl12), e < q + f12 → GW SC E (gFin SC E (gQi SC (fun r s' => c_Q f e t z 1 o p s r s'))) 12 [some (.ref (e_ad E 3)), some (.int v), some (.int w)] [] sl12 := by
      intro f12
      induction f12 with
      | zero =>
        intro k q cs w sl12 Ew hk1 hq1 hq2 hq3 hlp hFl12 hSl12 hBBl12 hf12
        exact absurd hf12 (by omega)
      | succ f12 ih12 =>
        intro k q cs w sl12 Ew hk1 hq1 hq2 hq3 hlp hFl12 hSl12 hBBl12 hf12
        refine G_iload_n (i := 2) C 13 dX6_readEither_12 rfl rfl rfl ?_
        refine G_sipush (v := 160) C 16 dX6_readEither_13 rfl rfl ?_
        refine G_icmp_ge C 57 19 dX6_readEither_16 rfl rfl (fun c16 => ?_) (fun c16 => ?_)
        ·
          have n16 : ¬ k < 160 := fun hq_ => c16 ((g_ltN (a := k) (b := 160) (hx := Ew) (hy := rfl) (by omega) (by omega)).mpr hq_)
          exfalso; omega
        ·
          have n16 : k < 160 := (g_ltN (a := k) (b := 160) (hx := Ew) (hy := rfl) (by omega) (by omega)).mp c16
          refine G_aload_n (i := 0) C 20 dX6_readEither_19 rfl rfl rfl ?_
          refine X6_32g C 23 dX6_readEither_20 rfl (fun x20 ex20 => ?_)
          have Sx20 : x20 = c_tk (t_c f e q) := ex20.trans hBBl12.1.1
          refine G_bipush (v := 103) C 25 dX6_readEither_23 rfl rfl ?_
          refine G_icmp_ne C 57 28 dX6_readEither_25 rfl rfl (fun c25 => ?_) (fun c25 => ?_)
          ·
            have hk25 : ¬ t_c f e q = 11 := fun z => c25 (Sx20.trans (by rw [z]; decide +kernel))
            refine G_iconst (v := 1) C 58 dX6_readEither_57 rfl rfl ?_
            exact G_zret C rfl dX6_readEither_58 (⟨hFl12, Or.inl ⟨rfl, q, cs, hBBl12.1, hSl12, hq1, hq2, hq3, c_lpe rfl hlp (c_nx_1 hk25)⟩⟩)
          ·
            have hc25 : t_c f e q = 11 := c_tk_eq (t_c_ok f e q) (by unfold t_okc; omega) (by decide) (Sx20.symm.trans (c25.trans (by decide +kernel : (103 : Int32) = c_tk 11)))
            have hn25 := t_n_lt hq2 (by rw [hc25]; decide : ¬ t_c f e q = 0)
            refine G_aload_n (i := 0) C 29 dX6_readEither_28 rfl rfl rfl ?_
            refine G_callv 32 (G_runV C Kc_X6_advance KV_X6_29 (by omega) (by decide) (eTp _ _ _) rfl (c_X6_advance 0 sl12 (t_n f e q) e hBBl12.1.2.2.1 hBBl12.2.2.1 hn25.2 he160 (fun j hj => by rw [hBBl12.2.1]; exact hb j hj)) rfl rfl rfl (Nat.le_of_ble_eq_true rfl) rfl dX6_readEither_29) rfl (fun s29 h29 => ?_)
            have hF_2 : c_F t z s s29 := c_F.tr hFl12 (c_N.F (c_B.adv hBBl12 h29).1)
            have hS_1 : c_S s29 t z cs := c_S_N hSl12 (c_B.adv hBBl12 h29).1
            have hBB_1 : c_B f e t (z + cs.length) (t_n f e q) s29 := (c_B.adv hBBl12 h29).2
            refine G_aload_n (i := 0) C 33 dX6_readEither_32 rfl rfl rfl ?_
            refine G_iload_n (i := 1) C 34 dX6_readEither_33 rfl rfl rfl ?_
            refine G_calli 37 (G_runV C Kc_X6_readBoth KV_X6_45 (by omega) (by decide) (eTp _ _ _) rfl (hIn 0 f e t (z + cs.length) (t_n f e q) s29 v hv hBB_1 hn25.2 (by omega) he160 ht6 hb) rfl rfl rfl (Nat.le_of_ble_eq_true rfl) rfl dX6_readEither_34) rfl (fun x34 s34 h34 => ?_)
            have hF_3 : c_F t z s s34 := c_F.tr hF_2 (c_F.le h34.1 (by omega))
            refine G_if_ne C 42 40 dX6_readEither_37 rfl rfl (fun c37 => ?_) (fun c37 => ?_)
            ·
              obtain ⟨p2, cs2, hT2, hS2, hlt2, hle2, hl2, hg2⟩ := (h34.2.resolve_right (fun y => c37 y.1)).2
              have hSn2 : c_S s34 t z (cs ++ cs2) := c_S_app (a := cs) hS_1 hS2 h34.1
              have hBn2 : c_B f e t (z + (cs ++ cs2).length) p2 s34 := c_B.sub (cs := cs) hBB_1 h34.1 hT2 hS2
              clear h34
              refine G_aload_n (i := 0) C 43 dX6_readEither_42 rfl rfl rfl ?_
              refine X6_19g C 46 t ht6 hBn2.2.2.2.1 dX6_readEither_43 rfl ?_
              refine G_bipush (v := (-103)) C 48 dX6_readEither_46 rfl rfl ?_
              refine G_callv 51 (G_runV C Kc_X7_add KV_X6_48 (by omega) (lT0 ht6) (eTx _ _ _ ht6) rfl (c_X7_add 0 s34 t (z + (cs ++ cs2).length) ht6 hBn2.2.2.2.2 (by simp only [List.length_append]; omega) (-103)) rfl rfl rfl (Nat.le_of_ble_eq_true rfl) rfl dX6_readEither_48) rfl (fun s48 h48 => ?_)
              have hF_4 : c_F t z s s48 := c_F.tr hF_3 (c_F.le (c_S_put hSn2 (by decide +kernel : (-103 : Int32) = x_cl 11) h48).2 (by omega))
              have hS_2 : c_S s48 t z ((cs ++ cs2) ++ [11]) := (c_S_put hSn2 (by decide +kernel : (-103 : Int32) = x_cl 11) h48).1
              have hBB_2 : c_B f e t (z + ((cs ++ cs2) ++ [11]).length) p2 s48 := c_B.put (cs := (cs ++ cs2)) (c := 11) hBn2 h48
              refine G_iinc (w := 1) C 54 dX6_readEither_51 rfl rfl rfl rfl (fun x51 ex51 => ?_)
              have Nx51 : x51 = nI (k + 1) := g_addN ex51 Ew rfl
              show GW SC E _ 54 [some (.ref (e_ad E 3)), some (.int v), some (.int x51)] [] s48
              refine G_goto C 12 dX6_readEither_54 rfl ?_
              exact ih12 (k + 1) p2 ((cs ++ cs2) ++ [11]) x51 s48 (g_cn (a := (k + 1)) Nx51 (by first | rfl | omega | (simp only [List.length_cons, List.length_drop]; done) | (simp only [List.length_cons, List.length_drop]; omega))) (by omega) (by omega) (by omega) (by simp only [List.length_append, List.length_cons, List.length_nil]; omega) (c_lps hq2 (by decide) (by decide) (by decide) (by unfold t_isB; omega) rfl rfl hlp hc25 hg2) hF_4 (hS_2) (hBB_2) (by omega)
            ·
              obtain ⟨p2, hT2, hle2, hg2⟩ := (h34.2.resolve_left (fun y => absurd (y.1.symm.trans c37) (by decide))).2
              clear h34
              refine G_iconst (v := 0) C 41 dX6_readEither_40 rfl rfl ?_
              exact G_zret C rfl dX6_readEither_41 (⟨hF_3, Or.inr ⟨rfl, p2, hT2, hle2, c_lpn hq2 rfl (by decide) (by decide) (by unfold t_isB; omega) rfl rfl hlp hc25 hg2⟩⟩)
    exact L12 (e + 1) 0 p1 cs1 0 s2 (g_cn (a := 0) rfl (by first | rfl | omega)) (by omega) (by omega) (by omega) (by omega) (c_lp0 (by decide) (by decide) rfl hg1) hF_1 (hSn1) (hBn1) (by omega)
  ·
    obtain ⟨p1, hT1, hle1, hg1⟩ := (h2.2.resolve_left (fun y => absurd (y.1.symm.trans c5) (by decide))).2
    clear h2
    refine G_iconst (v := 0) C 9 dX6_readEither_8 rfl rfl ?_
    exact G_zret C rfl dX6_readEither_9 (⟨hF_1, Or.inr ⟨rfl, p1, hT1, hle1, c_no0 (W := 2) (by decide) rfl hg1⟩⟩)
theorem c_grp : ∀ n o, o + n = 5 → c_C yX6_readOne cX6_readOne 2 (8 + 6 * n) 7 o ∧ c_C yX6_readNot cX6_readNot 3 (11 + 6 * n) 3 o ∧ c_C yX6_readEither cX6_readEither 3 (13 + 6 * n) 1 o := by
  intro n
  induction n using Nat.strongRecOn with
  | _ n ihn =>
    intro o hon
    have ih : ∀ m o2, o2 + m = 5 → m < n → c_C yX6_readOne cX6_readOne 2 (8 + 6 * m) 7 o2 ∧ c_C yX6_readNot cX6_readNot 3 (11 + 6 * m) 3 o2 ∧ c_C yX6_readEither cX6_readEither 3 (13 + 6 * m) 1 o2 := fun m o2 h hm => ihn m hm o2 h
    have h1 : c_C yX6_readOne cX6_readOne 2 (8 + 6 * n) 7 o := fun d f e t z p s v hv hB a1 a2 a3 a4 a5 => c_X6_readOne n o hon ih d f e t z p s v hv hB a1 a2 a3 a4 a5
    have h2 : c_C yX6_readTerm cX6_readTerm 3 (9 + 6 * n) 6 o := fun d f e t z p s v hv hB a1 a2 a3 a4 a5 => c_X6_readTerm n o hon h1 d f e t z p s v hv hB a1 a2 a3 a4 a5
    have h3 : c_C yX6_readSum cX6_readSum 4 (10 + 6 * n) 5 o := fun d f e t z p s v hv hB a1 a2 a3 a4 a5 => c_X6_readSum n o hon h2 d f e t z p s v hv hB a1 a2 a3 a4 a5
    have h4 : c_C yX6_readNot cX6_readNot 3 (11 + 6 * n) 3 o := fun d f e t z p s v hv hB a1 a2 a3 a4 a5 => c_X6_readNot n o hon h3 ih d f e t z p s v hv hB a1 a2 a3 a4 a5
    have h5 : c_C yX6_readBoth cX6_readBoth 3 (12 + 6 * n) 2 o := fun d f e t z p s v hv hB a1 a2 a3 a4 a5 => c_X6_readBoth n o hon h4 d f e t z p s v hv hB a1 a2 a3 a4 a5
    have h6 : c_C yX6_readEither cX6_readEither 3 (13 + 6 * n) 1 o := fun d f e t z p s v hv hB a1 a2 a3 a4 a5 => c_X6_readEither n o hon h5 d f e t z p s v hv hB a1 a2 a3 a4 a5
    exact ⟨h1, h4, h6⟩
theorem c_top : c_C yX6_readEither cX6_readEither 3 (13 + 6 * 5) 1 0 := (c_grp 5 0 rfl).2.2
