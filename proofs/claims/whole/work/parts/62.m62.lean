def c_ix (c : Nat) : Nat := if 30 ≤ c then c - 24 else if 20 ≤ c then c - 20 else c - 8
def c_tk (c : Nat) : Int32 := if 100000 ≤ c then 1 else if c = 0 then 0 else if c = 1 then 2 else if c = 40 then 40 else if c = 41 then 41 else if c = 42 then 59 else if c = 16 then 43 else if c = 17 then 45 else if c = 18 then 42 else if c = 14 then 60 else if c = 15 then 61 else nI (100 + c_ix c)
def c_pi : Nat → Nat := fun k => [0, 1, 2, 6, 7, 8, 9, 10, 11, 3, 4, 5].getD k 0
theorem c_pi_ok : ∀ k, k < 12 → c_pi k < 12 ∧ c_pm (c_pi k) = k := by decide +kernel
theorem c_pm_ok : ∀ n, n < 12 → c_pm n < 12 ∧ c_tk (t_kc (c_pm n)) = nI (100 + n) ∧ ¬ 100000 ≤ t_kc (c_pm n) := by decide +kernel
theorem c_kw {f : Nat → Int32} {i n : Nat} {x : Int32} (h : (∃ m, m < 12 ∧ x = nI (100 + m) ∧ t_is f i n (c_wd m) = true) ∨ (x = 2 ∧ ∀ m, m < 12 → ¬ t_is f i n (c_wd m) = true)) : x = c_tk (t_kw f i n t_tab) ∧ ¬ 100000 ≤ t_kw f i n t_tab := by
  rcases h with ⟨m, hm, hr, ht⟩ | ⟨hr, hno⟩
  · obtain ⟨h1, h2, h3⟩ := c_pm_ok m hm
    rw [t_kw_yes h1 ht]
    exact ⟨hr.trans h2.symm, h3⟩
  · have e : t_kw f i n t_tab = 1 := t_kw_no (fun q hq z => hno (c_pi q) (c_pi_ok q hq).1 (by unfold c_wd; rw [(c_pi_ok q hq).2]; exact z))
    rw [e]
    exact ⟨hr, by decide⟩
theorem c_sg1 : ∀ m, m < 256 → t_sg (nI m) = 1 ∨ ¬ ∀ j, j < 8 → ¬ s_b 2 j = nI m := by decide +kernel
theorem c_sg2 : ∀ m, m < 256 → ∀ j, j < 8 → s_b 2 j = nI m → nI m = c_tk (t_sg (nI m)) := by decide +kernel
theorem c_i2c : ∀ m, m < 256 → ((nI m).toUInt32 % 65536).toInt32 = nI m := by decide +kernel
theorem t_sg_nv (x : Int32) : ¬ 100000 ≤ t_sg x := by
  unfold t_sg
  repeat' split
  all_goals omega
theorem dX6_advance_0 : decode cX6_advance 0 = .ok (.aload_n 0, 1) := by decide +kernel
theorem dX6_advance_1 : decode cX6_advance 1 = .ok (.getfield 26, 3) := by decide +kernel
theorem dX6_advance_4 : decode cX6_advance 4 = .ok (.istore_n 1, 1) := by decide +kernel
theorem dX6_advance_5 : decode cX6_advance 5 = .ok (.iload_n 1, 1) := by decide +kernel
theorem dX6_advance_6 : decode cX6_advance 6 = .ok (.aload_n 0, 1) := by decide +kernel
theorem dX6_advance_7 : decode cX6_advance 7 = .ok (.getfield 15, 3) := by decide +kernel
theorem dX6_advance_10 : decode cX6_advance 10 = .ok (.if_icmp .ge 31, 3) := by decide +kernel
theorem dX6_advance_13 : decode cX6_advance 13 = .ok (.aload_n 0, 1) := by decide +kernel
theorem dX6_advance_14 : decode cX6_advance 14 = .ok (.getfield 9, 3) := by decide +kernel
theorem dX6_advance_17 : decode cX6_advance 17 = .ok (.iload_n 1, 1) := by decide +kernel
theorem dX6_advance_18 : decode cX6_advance 18 = .ok (.iaload, 1) := by decide +kernel
theorem dX6_advance_19 : decode cX6_advance 19 = .ok (.bipush 32, 2) := by decide +kernel
theorem dX6_advance_21 : decode cX6_advance 21 = .ok (.if_icmp .eq 14, 3) := by decide +kernel
theorem dX6_advance_24 : decode cX6_advance 24 = .ok (.aload_n 0, 1) := by decide +kernel
theorem dX6_advance_25 : decode cX6_advance 25 = .ok (.getfield 9, 3) := by decide +kernel
theorem dX6_advance_28 : decode cX6_advance 28 = .ok (.iload_n 1, 1) := by decide +kernel
theorem dX6_advance_29 : decode cX6_advance 29 = .ok (.iaload, 1) := by decide +kernel
theorem dX6_advance_30 : decode cX6_advance 30 = .ok (.bipush 10, 2) := by decide +kernel
theorem dX6_advance_32 : decode cX6_advance 32 = .ok (.if_icmp .ne 9, 3) := by decide +kernel
theorem dX6_advance_35 : decode cX6_advance 35 = .ok (.iinc 1 1, 3) := by decide +kernel
theorem dX6_advance_38 : decode cX6_advance 38 = .ok (.goto (-33), 3) := by decide +kernel
theorem dX6_advance_41 : decode cX6_advance 41 = .ok (.aload_n 0, 1) := by decide +kernel
theorem dX6_advance_42 : decode cX6_advance 42 = .ok (.iload_n 1, 1) := by decide +kernel
theorem dX6_advance_43 : decode cX6_advance 43 = .ok (.putfield 35, 3) := by decide +kernel
theorem dX6_advance_46 : decode cX6_advance 46 = .ok (.iload_n 1, 1) := by decide +kernel
theorem dX6_advance_47 : decode cX6_advance 47 = .ok (.aload_n 0, 1) := by decide +kernel
theorem dX6_advance_48 : decode cX6_advance 48 = .ok (.getfield 15, 3) := by decide +kernel
theorem dX6_advance_51 : decode cX6_advance 51 = .ok (.if_icmp .lt 19, 3) := by decide +kernel
theorem dX6_advance_54 : decode cX6_advance 54 = .ok (.aload_n 0, 1) := by decide +kernel
theorem dX6_advance_55 : decode cX6_advance 55 = .ok (.aload_n 0, 1) := by decide +kernel
theorem dX6_advance_56 : decode cX6_advance 56 = .ok (.getfield 15, 3) := by decide +kernel
theorem dX6_advance_59 : decode cX6_advance 59 = .ok (.putfield 26, 3) := by decide +kernel
theorem dX6_advance_62 : decode cX6_advance 62 = .ok (.aload_n 0, 1) := by decide +kernel
theorem dX6_advance_63 : decode cX6_advance 63 = .ok (.iconst 0, 1) := by decide +kernel
theorem dX6_advance_64 : decode cX6_advance 64 = .ok (.putfield 32, 3) := by decide +kernel
theorem dX6_advance_67 : decode cX6_advance 67 = .ok (.goto 88, 3) := by decide +kernel
theorem dX6_advance_70 : decode cX6_advance 70 = .ok (.aload_n 0, 1) := by decide +kernel
theorem dX6_advance_71 : decode cX6_advance 71 = .ok (.iload_n 1, 1) := by decide +kernel
theorem dX6_advance_72 : decode cX6_advance 72 = .ok (.invokevirtual 71, 3) := by decide +kernel
theorem dX6_advance_75 : decode cX6_advance 75 = .ok (.ifCond .eq 28, 3) := by decide +kernel
theorem dX6_advance_78 : decode cX6_advance 78 = .ok (.aload_n 0, 1) := by decide +kernel
theorem dX6_advance_79 : decode cX6_advance 79 = .ok (.aload_n 0, 1) := by decide +kernel
theorem dX6_advance_80 : decode cX6_advance 80 = .ok (.iload_n 1, 1) := by decide +kernel
theorem dX6_advance_81 : decode cX6_advance 81 = .ok (.invokevirtual 74, 3) := by decide +kernel
theorem dX6_advance_84 : decode cX6_advance 84 = .ok (.putfield 26, 3) := by decide +kernel
theorem dX6_advance_87 : decode cX6_advance 87 = .ok (.aload_n 0, 1) := by decide +kernel
theorem dX6_advance_88 : decode cX6_advance 88 = .ok (.aload_n 0, 1) := by decide +kernel
theorem dX6_advance_89 : decode cX6_advance 89 = .ok (.iload_n 1, 1) := by decide +kernel
theorem dX6_advance_90 : decode cX6_advance 90 = .ok (.aload_n 0, 1) := by decide +kernel
theorem dX6_advance_91 : decode cX6_advance 91 = .ok (.getfield 26, 3) := by decide +kernel
theorem dX6_advance_94 : decode cX6_advance 94 = .ok (.invokevirtual 78, 3) := by decide +kernel
theorem dX6_advance_97 : decode cX6_advance 97 = .ok (.putfield 32, 3) := by decide +kernel
theorem dX6_advance_100 : decode cX6_advance 100 = .ok (.goto 55, 3) := by decide +kernel
theorem dX6_advance_103 : decode cX6_advance 103 = .ok (.aload_n 0, 1) := by decide +kernel
theorem dX6_advance_104 : decode cX6_advance 104 = .ok (.iload_n 1, 1) := by decide +kernel
theorem dX6_advance_105 : decode cX6_advance 105 = .ok (.invokevirtual 82, 3) := by decide +kernel
theorem dX6_advance_108 : decode cX6_advance 108 = .ok (.ifCond .eq 11, 3) := by decide +kernel
theorem dX6_advance_111 : decode cX6_advance 111 = .ok (.aload_n 0, 1) := by decide +kernel
theorem dX6_advance_112 : decode cX6_advance 112 = .ok (.iload_n 1, 1) := by decide +kernel
theorem dX6_advance_113 : decode cX6_advance 113 = .ok (.invokevirtual 85, 3) := by decide +kernel
theorem dX6_advance_116 : decode cX6_advance 116 = .ok (.goto 39, 3) := by decide +kernel
theorem dX6_advance_119 : decode cX6_advance 119 = .ok (.aload_n 0, 1) := by decide +kernel
theorem dX6_advance_120 : decode cX6_advance 120 = .ok (.iload_n 1, 1) := by decide +kernel
theorem dX6_advance_121 : decode cX6_advance 121 = .ok (.iconst 1, 1) := by decide +kernel
theorem dX6_advance_122 : decode cX6_advance 122 = .ok (.iadd, 1) := by decide +kernel
theorem dX6_advance_123 : decode cX6_advance 123 = .ok (.putfield 26, 3) := by decide +kernel
theorem dX6_advance_126 : decode cX6_advance 126 = .ok (.aload_n 0, 1) := by decide +kernel
theorem dX6_advance_127 : decode cX6_advance 127 = .ok (.ldc 88, 2) := by decide +kernel
theorem dX6_advance_129 : decode cX6_advance 129 = .ok (.aload_n 0, 1) := by decide +kernel
theorem dX6_advance_130 : decode cX6_advance 130 = .ok (.getfield 9, 3) := by decide +kernel
theorem dX6_advance_133 : decode cX6_advance 133 = .ok (.iload_n 1, 1) := by decide +kernel
theorem dX6_advance_134 : decode cX6_advance 134 = .ok (.iaload, 1) := by decide +kernel
theorem dX6_advance_135 : decode cX6_advance 135 = .ok (.i2c, 1) := by decide +kernel
theorem dX6_advance_136 : decode cX6_advance 136 = .ok (.invokevirtual 90, 3) := by decide +kernel
theorem dX6_advance_139 : decode cX6_advance 139 = .ok (.ifCond .lt 12, 3) := by decide +kernel
theorem dX6_advance_142 : decode cX6_advance 142 = .ok (.aload_n 0, 1) := by decide +kernel
theorem dX6_advance_143 : decode cX6_advance 143 = .ok (.getfield 9, 3) := by decide +kernel
theorem dX6_advance_146 : decode cX6_advance 146 = .ok (.iload_n 1, 1) := by decide +kernel
theorem dX6_advance_147 : decode cX6_advance 147 = .ok (.iaload, 1) := by decide +kernel
theorem dX6_advance_148 : decode cX6_advance 148 = .ok (.goto 4, 3) := by decide +kernel
theorem dX6_advance_151 : decode cX6_advance 151 = .ok (.iconst 2, 1) := by decide +kernel
theorem dX6_advance_152 : decode cX6_advance 152 = .ok (.putfield 32, 3) := by decide +kernel
theorem dX6_advance_155 : decode cX6_advance 155 = .ok (.return_, 1) := by decide +kernel
set_option maxHeartbeats 4000000 in
set_option maxRecDepth 100000 in
theorem c_X6_advance (d : Nat) (s : gS) (p e : Nat) (hp : s 3 4 = nI p) (he : s 3 1 = nI e) (hpe : p ≤ e) (he160 : e ≤ 160) (hb : ∀ j, j < e → ∃ v, v < 256 ∧ s 4 j = nI v) : gMt SC yX6_advance cX6_advance 2 none (d + 7) (fun ad => [.ref (ad 3)]) s (gQv SC (fun s' => c_N s s' ∧ s' 3 3 = nI (t_pl (s 4) e p) ∧ s' 3 4 = nI (t_n (s 4) e p) ∧ s' 3 2 = c_tk (t_c (s 4) e p) ∧ (100000 ≤ t_c (s 4) e p → s' 3 5 = nI (t_c (s 4) e p - 100000)))) := by
  refine gMt_of SC_ok (by decide +kernel) (fun ad => [some (.ref (ad 3)), none]) (fun _ => rfl) (fun _ => rfl) (fun _ => Nat.le_of_ble_eq_true rfl) (fun E C0 => ?_)
  have C : gCx SC E RX6 cX6_advance 2 none (d + 7) := C0
  have f : c_N s s := c_N.rf
  have y2 : s 3 2 = s 3 2 := rfl
  have y3 : s 3 3 = s 3 3 := rfl
  have y4 : s 3 4 = nI p := hp
  have y5 : s 3 5 = s 3 5 := rfl
  refine G_aload_n (i := 0) C 1 dX6_advance_0 rfl rfl rfl ?_
  refine X6_26g C 4 dX6_advance_1 rfl (fun x1 ex1 => ?_)
  have Sx1 : x1 = nI p := ex1.trans y4
  refine G_istore_n (i := 1) (L' := [some (.ref (e_ad E 3)), some (.int x1)]) C 5 dX6_advance_4 rfl rfl (Nat.le_of_ble_eq_true rfl) rfl rfl ?_
  have L5 : ∀ (f5 : Nat) (k : Nat) (w : Int32) (Ew : w = nI k) (hk1 : p ≤ k) (hk2 : k ≤ e) (hpl : t_pl (s 4) e k = t_pl (s 4) e p), e < k + f5 → GW SC E (gFin SC E (gQv SC (fun s' => c_N s s' ∧ s' 3 3 = nI (t_pl (s 4) e p) ∧ s' 3 4 = nI (t_n (s 4) e p) ∧ s' 3 2 = c_tk (t_c (s 4) e p) ∧ (100000 ≤ t_c (s 4) e p → s' 3 5 = nI (t_c (s 4) e p - 100000))))) 5 [some (.ref (e_ad E 3)), some (.int w)] [] s := by
    intro f5
    induction f5 with
    | zero =>
      intro k w Ew hk1 hk2 hpl hf5
      exact absurd hf5 (by omega)
    | succ f5 ih5 =>
      intro k w Ew hk1 hk2 hpl hf5
      refine G_iload_n (i := 1) C 6 dX6_advance_5 rfl rfl rfl ?_
      refine G_aload_n (i := 0) C 7 dX6_advance_6 rfl rfl rfl ?_
      refine X6_15g C 10 dX6_advance_7 rfl (fun x7 ex7 => ?_)
      have Sx7 : x7 = nI e := ex7.trans (he)
      refine G_icmp_ge C 41 13 dX6_advance_10 rfl rfl (fun c10 => ?_) (fun c10 => ?_)
      ·
        have n10 : ¬ k < e := fun hq_ => c10 ((g_ltN (a := k) (b := e) (hx := Ew) (hy := Sx7) (by omega) (by omega)).mpr hq_)
        have hi : t_pl (s 4) e p = k := hpl.symm.trans (t_pl_e (by omega))
        refine G_aload_n (i := 0) C 42 dX6_advance_41 rfl rfl rfl ?_
        refine G_iload_n (i := 1) C 43 dX6_advance_42 rfl rfl rfl ?_
        refine X6_35p C 46 dX6_advance_43 rfl (fun s43 es43 => ?_)
        have f_1 : c_N s s43 := c_N.up f es43 (by decide)
        have y2_1 : s43 3 2 = s 3 2 := by rw [es43, g_up_sj]; exact (if_neg (by decide)).trans y2
        have y3_1 : s43 3 3 = nI k := by rw [es43, g_up_sj]; exact (if_pos rfl).trans Ew
        have y4_1 : s43 3 4 = nI p := by rw [es43, g_up_sj]; exact (if_neg (by decide)).trans y4
        have y5_1 : s43 3 5 = s 3 5 := by rw [es43, g_up_sj]; exact (if_neg (by decide)).trans y5
        refine G_iload_n (i := 1) C 47 dX6_advance_46 rfl rfl rfl ?_
        refine G_aload_n (i := 0) C 48 dX6_advance_47 rfl rfl rfl ?_
        refine X6_15g C 51 dX6_advance_48 rfl (fun x48 ex48 => ?_)
        have Sx48 : x48 = nI e := ex48.trans ((f_1.2 1 (by decide)).trans he)
        refine G_icmp_lt C 70 54 dX6_advance_51 rfl rfl (fun c51 => ?_) (fun c51 => ?_)
        ·
          have n51 : k < e := (g_ltN (a := k) (b := e) (hx := Ew) (hy := Sx48) (by omega) (by omega)).mp c51
          exfalso; omega
        ·
          have n51 : ¬ k < e := fun hq_ => c51 ((g_ltN (a := k) (b := e) (hx := Ew) (hy := Sx48) (by omega) (by omega)).mpr hq_)
          refine G_aload_n (i := 0) C 55 dX6_advance_54 rfl rfl rfl ?_
          refine G_aload_n (i := 0) C 56 dX6_advance_55 rfl rfl rfl ?_
          refine X6_15g C 59 dX6_advance_56 rfl (fun x56 ex56 => ?_)
          have Sx56 : x56 = nI e := ex56.trans ((f_1.2 1 (by decide)).trans he)
          refine X6_26p C 62 dX6_advance_59 rfl (fun s59 es59 => ?_)
          have f_2 : c_N s s59 := c_N.up f_1 es59 (by decide)
          have y2_2 : s59 3 2 = s 3 2 := by rw [es59, g_up_sj]; exact (if_neg (by decide)).trans y2_1
          have y3_2 : s59 3 3 = nI k := by rw [es59, g_up_sj]; exact (if_neg (by decide)).trans y3_1
          have y4_2 : s59 3 4 = nI e := by rw [es59, g_up_sj]; exact (if_pos rfl).trans Sx56
          have y5_2 : s59 3 5 = s 3 5 := by rw [es59, g_up_sj]; exact (if_neg (by decide)).trans y5_1
          refine G_aload_n (i := 0) C 63 dX6_advance_62 rfl rfl rfl ?_
          refine G_iconst (v := 0) C 64 dX6_advance_63 rfl rfl ?_
          refine X6_32p C 67 dX6_advance_64 rfl (fun s64 es64 => ?_)
          have f_3 : c_N s s64 := c_N.up f_2 es64 (by decide)
          have y2_3 : s64 3 2 = nI 0 := by rw [es64, g_up_sj]; exact (if_pos rfl).trans rfl
          have y3_3 : s64 3 3 = nI k := by rw [es64, g_up_sj]; exact (if_neg (by decide)).trans y3_2
          have y4_3 : s64 3 4 = nI e := by rw [es64, g_up_sj]; exact (if_neg (by decide)).trans y4_2
          have y5_3 : s64 3 5 = s 3 5 := by rw [es64, g_up_sj]; exact (if_neg (by decide)).trans y5_2
          refine G_goto C 155 dX6_advance_67 rfl ?_
          exact G_vret C dX6_advance_155 (⟨f_3, y3_3.trans (by rw [hi]), y4_3.trans (by unfold t_n; rw [hi, if_neg (by omega)]; exact congrArg nI (by omega)), y2_3.trans (by unfold t_c; rw [hi, if_neg (by omega)]; rfl), fun z => absurd z (by unfold t_c; rw [hi, if_neg (by omega)]; decide)⟩)
      ·
        have n10 : k < e := (g_ltN (a := k) (b := e) (hx := Ew) (hy := Sx7) (by omega) (by omega)).mp c10
        refine G_aload_n (i := 0) C 14 dX6_advance_13 rfl rfl rfl ?_
        refine X6_9g C 17 dX6_advance_14 rfl ?_
        refine G_iload_n (i := 1) C 18 dX6_advance_17 rfl rfl rfl ?_
        refine G_iald (n := 160) C 19 (by decide) (eTb _ _ _) (k) Ew (by omega) (by decide) dX6_advance_18 rfl (fun x18 ex18 => ?_)
        have Sx18 : x18 = s 4 k := ex18.trans (congrFun (f.1 4 (by decide)) k)
        refine G_bipush (v := 32) C 21 dX6_advance_19 rfl rfl ?_
        refine G_icmp_eq C 35 24 dX6_advance_21 rfl rfl (fun c21 => ?_) (fun c21 => ?_)
        ·
          refine G_iinc (w := 1) C 38 dX6_advance_35 rfl rfl rfl rfl (fun x35 ex35 => ?_)
          have Nx35 : x35 = nI (k + 1) := g_addN ex35 Ew rfl
          show GW SC E _ 38 [some (.ref (e_ad E 3)), some (.int x35)] [] s
          refine G_goto C 5 dX6_advance_38 rfl ?_
          exact ih5 (k + 1) x35  (g_cn (a := (k + 1)) Nx35 (by first | rfl | omega | (simp only [List.length_cons, List.length_drop]; done) | (simp only [List.length_cons, List.length_drop]; omega))) (by omega) (by omega) ((t_pl_b (by omega) (Or.inl (Sx18.symm.trans c21))).symm.trans hpl) (by omega)
        ·
          refine G_aload_n (i := 0) C 25 dX6_advance_24 rfl rfl rfl ?_
          refine X6_9g C 28 dX6_advance_25 rfl ?_
          refine G_iload_n (i := 1) C 29 dX6_advance_28 rfl rfl rfl ?_
          refine G_iald (n := 160) C 30 (by decide) (eTb _ _ _) (k) Ew (by omega) (by decide) dX6_advance_29 rfl (fun x29 ex29 => ?_)
          have Sx29 : x29 = s 4 k := ex29.trans (congrFun (f.1 4 (by decide)) k)
          refine G_bipush (v := 10) C 32 dX6_advance_30 rfl rfl ?_
          refine G_icmp_ne C 41 35 dX6_advance_32 rfl rfl (fun c32 => ?_) (fun c32 => ?_)
          ·
            have hi : t_pl (s 4) e p = k := hpl.symm.trans (t_pl_n (by omega) (fun z => c21 (Sx18.trans z)) (fun z => c32 (Sx29.trans z)))
            refine G_aload_n (i := 0) C 42 dX6_advance_41 rfl rfl rfl ?_
            refine G_iload_n (i := 1) C 43 dX6_advance_42 rfl rfl rfl ?_
            refine X6_35p C 46 dX6_advance_43 rfl (fun s43 es43 => ?_)
            have f_1 : c_N s s43 := c_N.up f es43 (by decide)
            have y2_1 : s43 3 2 = s 3 2 := by rw [es43, g_up_sj]; exact (if_neg (by decide)).trans y2
            have y3_1 : s43 3 3 = nI k := by rw [es43, g_up_sj]; exact (if_pos rfl).trans Ew
            have y4_1 : s43 3 4 = nI p := by rw [es43, g_up_sj]; exact (if_neg (by decide)).trans y4
            have y5_1 : s43 3 5 = s 3 5 := by rw [es43, g_up_sj]; exact (if_neg (by decide)).trans y5
            refine G_iload_n (i := 1) C 47 dX6_advance_46 rfl rfl rfl ?_
            refine G_aload_n (i := 0) C 48 dX6_advance_47 rfl rfl rfl ?_
            refine X6_15g C 51 dX6_advance_48 rfl (fun x48 ex48 => ?_)
            have Sx48 : x48 = nI e := ex48.trans ((f_1.2 1 (by decide)).trans he)
            refine G_icmp_lt C 70 54 dX6_advance_51 rfl rfl (fun c51 => ?_) (fun c51 => ?_)
            ·
              have n51 : k < e := (g_ltN (a := k) (b := e) (hx := Ew) (hy := Sx48) (by omega) (by omega)).mp c51
              have hke : k < e := by omega
              have hcd : t_c (s 4) e p = t_cd (s 4) e k := by unfold t_c; rw [hi, if_pos hke]
              have hnx : t_n (s 4) e p = t_nx (s 4) e k := by unfold t_n; rw [hi, if_pos hke]
              have h44 : s43 4 = s 4 := f_1.1 4 (by decide)
              refine G_aload_n (i := 0) C 71 dX6_advance_70 rfl rfl rfl ?_
              refine G_iload_n (i := 1) C 72 dX6_advance_71 rfl rfl rfl ?_
              refine G_calli 75 (G_runV C Kc_X6_isLetter KV_X6_71 (by omega) (by decide) (eTp _ _ _) rfl (c_X6_isLetter 0 s43 k e w Ew ((f_1.2 1 (by decide)).trans he) hke he160) rfl rfl rfl (Nat.le_of_ble_eq_true rfl) rfl dX6_advance_72) rfl (fun x72 s72 h72 => ?_)
              obtain ⟨es72, h72⟩ := h72
              have es72 := es72.symm
              subst es72
              rw [h44] at h72
              refine G_if_eq C 103 78 dX6_advance_75 rfl rfl (fun c75 => ?_) (fun c75 => ?_)
              ·
                have k75 := h72.symm.trans c75
                refine G_aload_n (i := 0) C 104 dX6_advance_103 rfl rfl rfl ?_
                refine G_iload_n (i := 1) C 105 dX6_advance_104 rfl rfl rfl ?_
                refine G_calli 108 (G_runV C Kc_X6_isDigit KV_X6_82 (by omega) (by decide) (eTp _ _ _) rfl (c_X6_isDigit 0 s43 k e w Ew ((f_1.2 1 (by decide)).trans he) hke he160) rfl rfl rfl (Nat.le_of_ble_eq_true rfl) rfl dX6_advance_105) rfl (fun x105 s105 h105 => ?_)
                obtain ⟨es105, h105⟩ := h105
                have es105 := es105.symm
                subst es105
                rw [h44] at h105
                refine G_if_eq C 119 111 dX6_advance_108 rfl rfl (fun c108 => ?_) (fun c108 => ?_)
                ·
                  have k108 := h105.symm.trans c108
                  refine G_aload_n (i := 0) C 120 dX6_advance_119 rfl rfl rfl ?_
                  refine G_iload_n (i := 1) C 121 dX6_advance_120 rfl rfl rfl ?_
                  refine G_iconst (v := 1) C 122 dX6_advance_121 rfl rfl ?_
                  refine G_iadd C 123 dX6_advance_122 rfl (fun x122 ex122 => ?_)
                  have Nx122 : x122 = nI (k + 1) := g_addN ex122 Ew rfl
                  refine X6_26p C 126 dX6_advance_123 rfl (fun s123 es123 => ?_)
                  have f_2 : c_N s s123 := c_N.up f_1 es123 (by decide)
                  have y2_2 : s123 3 2 = s 3 2 := by rw [es123, g_up_sj]; exact (if_neg (by decide)).trans y2_1
                  have y3_2 : s123 3 3 = nI k := by rw [es123, g_up_sj]; exact (if_neg (by decide)).trans y3_1
                  have y4_2 : s123 3 4 = nI (k + 1) := by rw [es123, g_up_sj]; exact (if_pos rfl).trans Nx122
                  have y5_2 : s123 3 5 = s 3 5 := by rw [es123, g_up_sj]; exact (if_neg (by decide)).trans y5_1
                  obtain ⟨m, hm, em⟩ := hb k hke
                  refine G_aload_n (i := 0) C 127 dX6_advance_126 rfl rfl rfl ?_
                  refine G_ldcS2 C 129 dX6_advance_127 rfl ?_
                  refine G_aload_n (i := 0) C 130 dX6_advance_129 rfl rfl rfl ?_
                  refine X6_9g C 133 dX6_advance_130 rfl ?_
                  refine G_iload_n (i := 1) C 134 dX6_advance_133 rfl rfl rfl ?_
                  refine G_iald (n := 160) C 135 (by decide) (eTb _ _ _) (k) Ew (by omega) (by decide) dX6_advance_134 rfl (fun x134 ex134 => ?_)
                  have Sx134 : x134 = s 4 k := ex134.trans (congrFun (f_2.1 4 (by decide)) k)
                  refine G_i2c C 136 dX6_advance_135 rfl (fun x135 ex135 => ?_)
                  have hvm : x135 = nI m := by rw [ex135, Sx134, em]; exact c_i2c m hm
                  refine G_calli 139 (G_runVz (i := 2) C Kc_J0_indexOf_0f7a4 KV_X6_90 (by omega) (by decide) rfl (c_J0_indexOf 0 2 m 8 (by decide) rfl (by decide) x135 hvm hm s123) rfl rfl rfl (Nat.le_of_ble_eq_true rfl) rfl dX6_advance_136) rfl (fun x136 s136 h136 => ?_)
                  obtain ⟨es136, h136⟩ := h136
                  have es136 := es136.symm
                  subst es136
                  have hsg : t_cd (s 4) e k = t_sg (nI m) := by unfold t_cd; rw [if_pos k75, if_pos k108, em]
                  rw [hvm] at h136
                  refine G_if_lt C 151 142 dX6_advance_139 rfl rfl (fun c139 => ?_) (fun c139 => ?_)
                  ·
                    have hs1 : t_sg (nI m) = 1 := (c_sg1 m hm).resolve_right (fun y => y (fun j hj => by
                      rcases h136 with ⟨_, z⟩ | ⟨j2, hj2, z, _⟩
                      · exact z j hj
                      · have hj8 : j2 < 8 := hj2
                        exact absurd c139 (by rw [z, show (0 : Int32) = nI 0 from rfl, nI_ltI (by omega) (by decide)]; omega)))
                    clear h136
                    refine G_iconst (v := 2) C 152 dX6_advance_151 rfl rfl ?_
                    refine X6_32p C 155 dX6_advance_152 rfl (fun s152 es152 => ?_)
                    have f_3 : c_N s s152 := c_N.up f_2 es152 (by decide)
                    have y2_3 : s152 3 2 = nI 2 := by rw [es152, g_up_sj]; exact (if_pos rfl).trans rfl
                    have y3_3 : s152 3 3 = nI k := by rw [es152, g_up_sj]; exact (if_neg (by decide)).trans y3_2
                    have y4_3 : s152 3 4 = nI (k + 1) := by rw [es152, g_up_sj]; exact (if_neg (by decide)).trans y4_2
                    have y5_3 : s152 3 5 = s 3 5 := by rw [es152, g_up_sj]; exact (if_neg (by decide)).trans y5_2
                    exact G_vret C dX6_advance_155 (⟨f_3, y3_3.trans (by rw [hi]), y4_3.trans (by rw [hnx]; unfold t_nx; rw [if_pos k75, if_pos k108]), y2_3.trans (by rw [hcd, hsg, hs1]; rfl), fun z => absurd z (by rw [hcd, hsg]; exact t_sg_nv _)⟩)
                  ·
                    have hs2 : nI m = c_tk (t_sg (nI m)) := by
                      rcases h136 with ⟨z, _⟩ | ⟨j2, hj2, _, z⟩
                      · exact absurd (show x136 < 0 by rw [z]; decide) c139
                      · exact c_sg2 m hm j2 hj2 z
                    clear h136
                    refine G_aload_n (i := 0) C 143 dX6_advance_142 rfl rfl rfl ?_
                    refine X6_9g C 146 dX6_advance_143 rfl ?_
                    refine G_iload_n (i := 1) C 147 dX6_advance_146 rfl rfl rfl ?_
                    refine G_iald (n := 160) C 148 (by decide) (eTb _ _ _) (k) Ew (by omega) (by decide) dX6_advance_147 rfl (fun x147 ex147 => ?_)
                    have Sx147 : x147 = s 4 k := ex147.trans (congrFun (f_2.1 4 (by decide)) k)
                    refine G_goto C 152 dX6_advance_148 rfl ?_
                    refine X6_32p C 155 dX6_advance_152 rfl (fun s152 es152 => ?_)
                    have f_3 : c_N s s152 := c_N.up f_2 es152 (by decide)
                    have y2_3 : s152 3 2 = x147 := by rw [es152, g_up_sj]; exact if_pos rfl
                    have y3_3 : s152 3 3 = nI k := by rw [es152, g_up_sj]; exact (if_neg (by decide)).trans y3_2
                    have y4_3 : s152 3 4 = nI (k + 1) := by rw [es152, g_up_sj]; exact (if_neg (by decide)).trans y4_2
                    have y5_3 : s152 3 5 = s 3 5 := by rw [es152, g_up_sj]; exact (if_neg (by decide)).trans y5_2
                    exact G_vret C dX6_advance_155 (⟨f_3, y3_3.trans (by rw [hi]), y4_3.trans (by rw [hnx]; unfold t_nx; rw [if_pos k75, if_pos k108]), y2_3.trans (by rw [hcd, hsg, Sx147, em]; exact hs2), fun z => absurd z (by rw [hcd, hsg]; exact t_sg_nv _)⟩)
                ·
                  have k108 := g_neT h105 c108
                  refine G_aload_n (i := 0) C 112 dX6_advance_111 rfl rfl rfl ?_
                  refine G_iload_n (i := 1) C 113 dX6_advance_112 rfl rfl rfl ?_
                  refine G_callv 116 (G_runV C Kc_X6_takeNumber KV_X6_85 (by omega) (by decide) (eTp _ _ _) rfl (c_X6_takeNumber 0 s43 k e w Ew ((f_1.2 1 (by decide)).trans he) (by omega) he160) rfl rfl rfl (Nat.le_of_ble_eq_true rfl) rfl dX6_advance_113) rfl (fun s113 h113 => ?_)
                  have f_2 : c_N s s113 := c_N.tr f_1 h113.1
                  rw [h44] at h113
                  obtain ⟨hn1, hn2, hn3, hn4, hn5⟩ := h113
                  have hn3b : s113 3 3 = nI k := hn3.trans y3_1
                  refine G_goto C 155 dX6_advance_116 rfl ?_
                  have hdd : t_cd (s 4) e k = if 4 < t_end (s 4) e 48 57 k - k then 1 else 100000 + t_val (s 4) k (t_end (s 4) e 48 57 k - k) := by unfold t_cd; rw [if_pos k75, if_neg k108]
                  exact G_vret C dX6_advance_155 (⟨f_2, hn3b.trans (by rw [hi]), hn2.trans (by rw [hnx]; unfold t_nx; rw [if_pos k75, if_neg k108]), hn4.trans (by
                      rw [hcd, hdd]
                      by_cases hq : 4 < t_end (s 4) e 48 57 k - k
                      · rw [if_pos hq, if_pos hq]; rfl
                      · rw [if_neg hq, if_neg hq]; exact (if_pos (by omega)).symm), fun z => by
                      rw [hcd, hdd] at z ⊢
                      by_cases hq : 4 < t_end (s 4) e 48 57 k - k
                      · rw [if_pos hq] at z; exact absurd z (by decide)
                      · rw [if_neg hq, hn5 (by omega)]; exact congrArg nI (by omega)⟩)
              ·
                have k75 := g_neT h72 c75
                refine G_aload_n (i := 0) C 79 dX6_advance_78 rfl rfl rfl ?_
                refine G_aload_n (i := 0) C 80 dX6_advance_79 rfl rfl rfl ?_
                refine G_iload_n (i := 1) C 81 dX6_advance_80 rfl rfl rfl ?_
                refine G_calli 84 (G_runV C Kc_X6_wordEnd KV_X6_74 (by omega) (by decide) (eTp _ _ _) rfl (c_X6_wordEnd 0 s43 k e w Ew ((f_1.2 1 (by decide)).trans he) (by omega) he160) rfl rfl rfl (Nat.le_of_ble_eq_true rfl) rfl dX6_advance_81) rfl (fun x81 s81 h81 => ?_)
                obtain ⟨es81, h81⟩ := h81
                have es81 := es81.symm
                subst es81
                rw [h44] at h81
                refine X6_26p C 87 dX6_advance_84 rfl (fun s84 es84 => ?_)
                have f_2 : c_N s s84 := c_N.up f_1 es84 (by decide)
                have y2_2 : s84 3 2 = s 3 2 := by rw [es84, g_up_sj]; exact (if_neg (by decide)).trans y2_1
                have y3_2 : s84 3 3 = nI k := by rw [es84, g_up_sj]; exact (if_neg (by decide)).trans y3_1
                have y4_2 : s84 3 4 = nI (t_end (s 4) e 97 122 k) := by rw [es84, g_up_sj]; exact (if_pos rfl).trans h81
                have y5_2 : s84 3 5 = s 3 5 := by rw [es84, g_up_sj]; exact (if_neg (by decide)).trans y5_1
                refine G_aload_n (i := 0) C 88 dX6_advance_87 rfl rfl rfl ?_
                refine G_aload_n (i := 0) C 89 dX6_advance_88 rfl rfl rfl ?_
                refine G_iload_n (i := 1) C 90 dX6_advance_89 rfl rfl rfl ?_
                refine G_aload_n (i := 0) C 91 dX6_advance_90 rfl rfl rfl ?_
                refine X6_26g C 94 dX6_advance_91 rfl (fun x91 ex91 => ?_)
                have Sx91 : x91 = nI (t_end (s 4) e 97 122 k) := ex91.trans y4_2
                refine G_calli 97 (G_runV C Kc_X6_word KV_X6_78 (by omega) (by decide) (eTp _ _ _) rfl (c_X6_word 0 s84 k (t_end (s 4) e 97 122 k) w x91 Ew Sx91 (t_end_ge (s 4) e 97 122 k) (Nat.le_trans (t_end_le (by omega)) he160)) rfl rfl rfl (Nat.le_of_ble_eq_true rfl) rfl dX6_advance_94) rfl (fun x94 s94 h94 => ?_)
                obtain ⟨es94, h94⟩ := h94
                have es94 := es94.symm
                subst es94
                rw [show s84 4 = s 4 from f_2.1 4 (by decide)] at h94
                have hkw := c_kw h94
                clear h94
                have hcw : t_cd (s 4) e k = t_kw (s 4) k (t_end (s 4) e 97 122 k - k) t_tab := by unfold t_cd; rw [if_neg k75]
                refine X6_32p C 100 dX6_advance_97 rfl (fun s97 es97 => ?_)
                have f_3 : c_N s s97 := c_N.up f_2 es97 (by decide)
                have y2_3 : s97 3 2 = x94 := by rw [es97, g_up_sj]; exact if_pos rfl
                have y3_3 : s97 3 3 = nI k := by rw [es97, g_up_sj]; exact (if_neg (by decide)).trans y3_2
                have y4_3 : s97 3 4 = nI (t_end (s 4) e 97 122 k) := by rw [es97, g_up_sj]; exact (if_neg (by decide)).trans y4_2
                have y5_3 : s97 3 5 = s 3 5 := by rw [es97, g_up_sj]; exact (if_neg (by decide)).trans y5_2
                refine G_goto C 155 dX6_advance_100 rfl ?_
                exact G_vret C dX6_advance_155 (⟨f_3, y3_3.trans (by rw [hi]), y4_3.trans (by rw [hnx]; unfold t_nx; rw [if_neg k75]), y2_3.trans (by rw [hcd, hcw]; exact hkw.1), fun z => absurd z (by rw [hcd, hcw]; exact hkw.2)⟩)
            ·
              have n51 : ¬ k < e := fun hq_ => c51 ((g_ltN (a := k) (b := e) (hx := Ew) (hy := Sx48) (by omega) (by omega)).mpr hq_)
              exfalso; omega
          ·
            refine G_iinc (w := 1) C 38 dX6_advance_35 rfl rfl rfl rfl (fun x35 ex35 => ?_)
            have Nx35 : x35 = nI (k + 1) := g_addN ex35 Ew rfl
            show GW SC E _ 38 [some (.ref (e_ad E 3)), some (.int x35)] [] s
            refine G_goto C 5 dX6_advance_38 rfl ?_
            exact ih5 (k + 1) x35  (g_cn (a := (k + 1)) Nx35 (by first | rfl | omega | (simp only [List.length_cons, List.length_drop]; done) | (simp only [List.length_cons, List.length_drop]; omega))) (by omega) (by omega) ((t_pl_b (by omega) (Or.inr (Sx29.symm.trans c32))).symm.trans hpl) (by omega)
  exact L5 (e + 1) p x1  (g_cn (a := p) Sx1 (by first | rfl | omega)) (by omega) (by omega) (rfl) (by omega)
