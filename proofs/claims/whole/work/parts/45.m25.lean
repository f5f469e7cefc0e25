theorem G_iald14 {E : gE} {own : String} {cc : ByteArray} {nL : Nat} {ret : Option FieldType} {d : Nat} {Q : State → Prop} {pc : Nat} {L : List (Option Value)} {st : List Value} {σ : gS} (C : gCx SM E own cc nL ret d) (pc' : Nat) {i : Int32} (j : Nat) (hi : i = nI j) (hj : j < 96) (hd : decode cc pc = .ok (.iaload, 1)) (hp : pc + 1 = pc') (kk : ∀ v : Int32, v = mWordF j → GW SM E Q pc' L (.int v :: st) σ) : GW SM E Q pc L (.int i :: .ref (e_ad E 14) :: st) σ := by
  subst hp
  subst hi
  intro H locs ls hP hS hl hz
  refine va_iald C.1 C.2.1 C.2.2.2.2.2.2.2.1 hP 14 0 (by rw [gPic_at (by decide), eM14]) rfl (vp_in_nI hj (by decide)) hd ?_
  rw [nI_clamp (by omega)]
  exact kk _ rfl H locs ls hP hS hl hz
def t_N (a b : gS) : Prop := (∀ k, k ≠ 0 → b k = a k) ∧ ∀ j, ¬ (18 ≤ j ∧ j < 22) → b 0 j = a 0 j
theorem t_N.rf {a : gS} : t_N a a := ⟨fun _ _ => rfl, fun _ _ => rfl⟩
theorem t_N.up {a b c : gS} {j : Nat} {v : Int32} (h : t_N a b) (e : c = g_up b 0 j v) (hj : 18 ≤ j ∧ j < 22) : t_N a c := ⟨fun k hk => by rw [e, g_up_n hk]; exact h.1 k hk, fun i hi => by rw [e, g_up_sj, if_neg (fun z => hi (by rw [z]; exact hj))]; exact h.2 i hi⟩
def t_mt (c : Nat) : Int32 := if 100000 ≤ c then 1 else if c = 40 then 40 else if c = 41 then 41 else if c = 42 then 59 else if 30 ≤ c then 2 else if 20 ≤ c then 3 else if c = 11 then 4 else if c = 12 then 5 else if c = 13 then 6 else if c = 14 then 60 else if c = 15 then 61 else if c = 16 then 43 else if c = 17 then 45 else if c = 18 then 42 else if c = 0 then 0 else -1
def t_V (c : Nat) (v : Int32) : Prop := (100000 ≤ c → v = nI (c - 100000)) ∧ (30 ≤ c → c < 36 → v = nI (c - 30)) ∧ (20 ≤ c → c < 23 → v = nI (c - 20))
def t_c (f : Nat → Int32) (e p : Nat) : Nat := if t_pl f e p < e then t_cd f e (t_pl f e p) else 0
def t_n (f : Nat → Int32) (e p : Nat) : Nat := if t_pl f e p < e then t_nx f e (t_pl f e p) else t_pl f e p
theorem t_wtok : ∀ k, k < 12 → t_mt (t_kc k) = (if nI k < 3 then 3 else if nI k < 9 then 2 else 4 + nI k - 9) := by decide +kernel
theorem t_wval : ∀ k, k < 12 → t_V (t_kc k) (if nI k < 3 then nI k else nI k - 3) := by
  intro k hk
  have h1 : ∀ k, k < 12 → t_kc k < 100000 := by decide +kernel
  have h2 : ∀ k, k < 12 → 30 ≤ t_kc k → t_kc k < 36 → (if nI k < 3 then nI k else nI k - 3) = nI (t_kc k - 30) := by decide +kernel
  have h3 : ∀ k, k < 12 → 20 ≤ t_kc k → t_kc k < 23 → (if nI k < 3 then nI k else nI k - 3) = nI (t_kc k - 20) := by decide +kernel
  exact ⟨fun h => absurd (h1 k hk) (by omega), h2 k hk, h3 k hk⟩
theorem dX11_wordFrom_0 : decode cX11_wordFrom 0 = .ok (.iconst 0, 1) := by decide +kernel
theorem dX11_wordFrom_1 : decode cX11_wordFrom 1 = .ok (.istore_n 3, 1) := by decide +kernel
theorem dX11_wordFrom_2 : decode cX11_wordFrom 2 = .ok (.iload_n 3, 1) := by decide +kernel
theorem dX11_wordFrom_3 : decode cX11_wordFrom 3 = .ok (.bipush 12, 2) := by decide +kernel
theorem dX11_wordFrom_5 : decode cX11_wordFrom 5 = .ok (.if_icmp .ge 96, 3) := by decide +kernel
theorem dX11_wordFrom_8 : decode cX11_wordFrom 8 = .ok (.iload_n 2, 1) := by decide +kernel
theorem dX11_wordFrom_9 : decode cX11_wordFrom 9 = .ok (.iload_n 1, 1) := by decide +kernel
theorem dX11_wordFrom_10 : decode cX11_wordFrom 10 = .ok (.isub, 1) := by decide +kernel
theorem dX11_wordFrom_11 : decode cX11_wordFrom 11 = .ok (.bipush 8, 2) := by decide +kernel
theorem dX11_wordFrom_13 : decode cX11_wordFrom 13 = .ok (.if_icmp .gt 7, 3) := by decide +kernel
theorem dX11_wordFrom_16 : decode cX11_wordFrom 16 = .ok (.iconst 1, 1) := by decide +kernel
theorem dX11_wordFrom_17 : decode cX11_wordFrom 17 = .ok (.goto 4, 3) := by decide +kernel
theorem dX11_wordFrom_20 : decode cX11_wordFrom 20 = .ok (.iconst 0, 1) := by decide +kernel
theorem dX11_wordFrom_21 : decode cX11_wordFrom 21 = .ok (.istore 4, 2) := by decide +kernel
theorem dX11_wordFrom_23 : decode cX11_wordFrom 23 = .ok (.iconst 0, 1) := by decide +kernel
theorem dX11_wordFrom_24 : decode cX11_wordFrom 24 = .ok (.istore 5, 2) := by decide +kernel
theorem dX11_wordFrom_26 : decode cX11_wordFrom 26 = .ok (.iload 5, 2) := by decide +kernel
theorem dX11_wordFrom_28 : decode cX11_wordFrom 28 = .ok (.bipush 8, 2) := by decide +kernel
theorem dX11_wordFrom_30 : decode cX11_wordFrom 30 = .ok (.if_icmp .ge 58, 3) := by decide +kernel
theorem dX11_wordFrom_33 : decode cX11_wordFrom 33 = .ok (.iload 4, 2) := by decide +kernel
theorem dX11_wordFrom_35 : decode cX11_wordFrom 35 = .ok (.ifCond .eq 53, 3) := by decide +kernel
theorem dX11_wordFrom_38 : decode cX11_wordFrom 38 = .ok (.aload_n 0, 1) := by decide +kernel
theorem dX11_wordFrom_39 : decode cX11_wordFrom 39 = .ok (.getfield 49, 3) := by decide +kernel
theorem dX11_wordFrom_42 : decode cX11_wordFrom 42 = .ok (.bipush 8, 2) := by decide +kernel
theorem dX11_wordFrom_44 : decode cX11_wordFrom 44 = .ok (.iload_n 3, 1) := by decide +kernel
theorem dX11_wordFrom_45 : decode cX11_wordFrom 45 = .ok (.imul, 1) := by decide +kernel
theorem dX11_wordFrom_46 : decode cX11_wordFrom 46 = .ok (.iload 5, 2) := by decide +kernel
theorem dX11_wordFrom_48 : decode cX11_wordFrom 48 = .ok (.iadd, 1) := by decide +kernel
theorem dX11_wordFrom_49 : decode cX11_wordFrom 49 = .ok (.iaload, 1) := by decide +kernel
theorem dX11_wordFrom_50 : decode cX11_wordFrom 50 = .ok (.iload_n 1, 1) := by decide +kernel
theorem dX11_wordFrom_51 : decode cX11_wordFrom 51 = .ok (.iload 5, 2) := by decide +kernel
theorem dX11_wordFrom_53 : decode cX11_wordFrom 53 = .ok (.iadd, 1) := by decide +kernel
theorem dX11_wordFrom_54 : decode cX11_wordFrom 54 = .ok (.iload_n 2, 1) := by decide +kernel
theorem dX11_wordFrom_55 : decode cX11_wordFrom 55 = .ok (.if_icmp .ge 15, 3) := by decide +kernel
theorem dX11_wordFrom_58 : decode cX11_wordFrom 58 = .ok (.aload_n 0, 1) := by decide +kernel
theorem dX11_wordFrom_59 : decode cX11_wordFrom 59 = .ok (.getfield 22, 3) := by decide +kernel
theorem dX11_wordFrom_62 : decode cX11_wordFrom 62 = .ok (.iload_n 1, 1) := by decide +kernel
theorem dX11_wordFrom_63 : decode cX11_wordFrom 63 = .ok (.iload 5, 2) := by decide +kernel
theorem dX11_wordFrom_65 : decode cX11_wordFrom 65 = .ok (.iadd, 1) := by decide +kernel
theorem dX11_wordFrom_66 : decode cX11_wordFrom 66 = .ok (.iaload, 1) := by decide +kernel
theorem dX11_wordFrom_67 : decode cX11_wordFrom 67 = .ok (.goto 5, 3) := by decide +kernel
theorem dX11_wordFrom_70 : decode cX11_wordFrom 70 = .ok (.bipush 32, 2) := by decide +kernel
theorem dX11_wordFrom_72 : decode cX11_wordFrom 72 = .ok (.if_icmp .ne 7, 3) := by decide +kernel
theorem dX11_wordFrom_75 : decode cX11_wordFrom 75 = .ok (.iconst 1, 1) := by decide +kernel
theorem dX11_wordFrom_76 : decode cX11_wordFrom 76 = .ok (.goto 4, 3) := by decide +kernel
theorem dX11_wordFrom_79 : decode cX11_wordFrom 79 = .ok (.iconst 0, 1) := by decide +kernel
theorem dX11_wordFrom_80 : decode cX11_wordFrom 80 = .ok (.istore 4, 2) := by decide +kernel
theorem dX11_wordFrom_82 : decode cX11_wordFrom 82 = .ok (.iinc 5 1, 3) := by decide +kernel
theorem dX11_wordFrom_85 : decode cX11_wordFrom 85 = .ok (.goto (-59), 3) := by decide +kernel
theorem dX11_wordFrom_88 : decode cX11_wordFrom 88 = .ok (.iload 4, 2) := by decide +kernel
theorem dX11_wordFrom_90 : decode cX11_wordFrom 90 = .ok (.ifCond .eq 5, 3) := by decide +kernel
theorem dX11_wordFrom_93 : decode cX11_wordFrom 93 = .ok (.iload_n 3, 1) := by decide +kernel
theorem dX11_wordFrom_94 : decode cX11_wordFrom 94 = .ok (.ireturn, 1) := by decide +kernel
theorem dX11_wordFrom_95 : decode cX11_wordFrom 95 = .ok (.iinc 3 1, 3) := by decide +kernel
theorem dX11_wordFrom_98 : decode cX11_wordFrom 98 = .ok (.goto (-96), 3) := by decide +kernel
theorem dX11_wordFrom_101 : decode cX11_wordFrom 101 = .ok (.bipush 12, 2) := by decide +kernel
theorem dX11_wordFrom_103 : decode cX11_wordFrom 103 = .ok (.ireturn, 1) := by decide +kernel
set_option maxHeartbeats 4000000 in
set_option maxRecDepth 100000 in
theorem c_X11_wordFrom (d : Nat) (s : gS) (x y : Int32) (i j : Nat) (hx : x = nI i) (hy : y = nI j) (hij : i ≤ j) (hj : j ≤ 160) (hl : ∀ q, q < j - i → ¬ x_in (s 5 (i + q)) 97 122 = 0) : gMt SM yX11_wordFrom cX11_wordFrom 6 (some .int) (d + 1) (fun ad => [.ref (ad 0), .int x, .int y]) s (gQi SM (fun r s' => s' = s ∧ ∃ k, k ≤ 12 ∧ r = nI k ∧ (k < 12 → t_is (s 5) i (j - i) (t_wd k) = true) ∧ ∀ q, q < k → ¬ t_is (s 5) i (j - i) (t_wd q) = true)) := by
  refine gMt_of SM_ok (by decide +kernel) (fun ad => [some (.ref (ad 0)), some (.int x), some (.int y), none, none, none]) (fun _ => rfl) (fun _ => rfl) (fun _ => Nat.le_of_ble_eq_true rfl) (fun E C0 => ?_)
  have C : gCx SM E RX11 cX11_wordFrom 6 (some .int) (d + 1) := C0
  refine G_iconst (v := 0) C 1 dX11_wordFrom_0 rfl rfl ?_
  refine G_istore_n (i := 3) (L' := [some (.ref (e_ad E 0)), some (.int x), some (.int y), some (.int 0), none, none]) C 2 dX11_wordFrom_1 rfl rfl (Nat.le_of_ble_eq_true rfl) rfl rfl ?_
  have L2 : ∀ (f2 : Nat) (k : Nat) (w : Int32) (Ew : w = nI k) (hk : k ≤ 12) (hno : ∀ q, q < k → ¬ t_is (s 5) i (j - i) (t_wd q) = true), 12 < k + f2 → GW SM E (gFin SM E (gQi SM (fun r s' => s' = s ∧ ∃ k, k ≤ 12 ∧ r = nI k ∧ (k < 12 → t_is (s 5) i (j - i) (t_wd k) = true) ∧ ∀ q, q < k → ¬ t_is (s 5) i (j - i) (t_wd q) = true))) 2 [some (.ref (e_ad E 0)), some (.int x), some (.int y), some (.int w), none, none] [] s := by
    intro f2
    induction f2 with
    | zero =>
      intro k w Ew hk hno hf2
      exact absurd hf2 (by omega)
    | succ f2 ih2 =>
      intro k w Ew hk hno hf2
      refine G_iload_n (i := 3) C 3 dX11_wordFrom_2 rfl rfl rfl ?_
      refine G_bipush (v := 12) C 5 dX11_wordFrom_3 rfl rfl ?_
      refine G_icmp_ge C 101 8 dX11_wordFrom_5 rfl rfl (fun c5 => ?_) (fun c5 => ?_)
      ·
        have n5 : ¬ k < 12 := fun h => c5 ((g_ltN (a := k) (b := 12) (hx := Ew) (hy := rfl) (by omega) (by omega)).mpr h)
        refine G_bipush (v := 12) C 103 dX11_wordFrom_101 rfl rfl ?_
        exact G_iret C dX11_wordFrom_103 (⟨rfl, 12, Nat.le_refl _, rfl, fun h => absurd h (by decide), fun q hq => hno q (by omega)⟩)
      ·
        have n5 : k < 12 := (g_ltN (a := k) (b := 12) (hx := Ew) (hy := rfl) (by omega) (by omega)).mp c5
        refine G_iload_n (i := 2) C 9 dX11_wordFrom_8 rfl rfl rfl ?_
        refine G_iload_n (i := 1) C 10 dX11_wordFrom_9 rfl rfl rfl ?_
        refine G_isub C 11 dX11_wordFrom_10 rfl (fun x10 ex10 => ?_)
        have Nx10 : x10 = nI (j - i) := g_subN ex10 hy hx hij
        refine G_bipush (v := 8) C 13 dX11_wordFrom_11 rfl rfl ?_
        refine G_icmp_gt C 20 16 dX11_wordFrom_13 rfl rfl (fun c13 => ?_) (fun c13 => ?_)
        ·
          have n13 : 8 < (j - i) := (g_ltN (a := 8) (b := (j - i)) (hx := rfl) (hy := Nx10) (by omega) (by omega)).mp c13
          refine G_iconst (v := 0) C 21 dX11_wordFrom_20 rfl rfl ?_
          refine G_istore (L' := [some (.ref (e_ad E 0)), some (.int x), some (.int y), some (.int w), some (.int 0), none]) C 23 dX11_wordFrom_21 rfl (Nat.le_of_ble_eq_true rfl) rfl rfl ?_
          refine G_iconst (v := 0) C 24 dX11_wordFrom_23 rfl rfl ?_
          refine G_istore (L' := [some (.ref (e_ad E 0)), some (.int x), some (.int y), some (.int w), some (.int 0), some (.int 0)]) C 26 dX11_wordFrom_24 rfl (Nat.le_of_ble_eq_true rfl) rfl rfl ?_
          have L26 : ∀ (f26 : Nat) (c : Nat) (li v : Int32) (Ev : v = nI c) (hc : c ≤ 8) (hli : (li = 1 ∧ j - i ≤ 8 ∧ ∀ q, q < c → mWordF (8 * k + q) = if q < j - i then s 5 (i + q) else 32) ∨ (li = 0 ∧ ¬ t_is (s 5) i (j - i) (t_wd k) = true)), 8 < c + f26 → GW SM E (gFin SM E (gQi SM (fun r s' => s' = s ∧ ∃ k, k ≤ 12 ∧ r = nI k ∧ (k < 12 → t_is (s 5) i (j - i) (t_wd k) = true) ∧ ∀ q, q < k → ¬ t_is (s 5) i (j - i) (t_wd q) = true))) 26 [some (.ref (e_ad E 0)), some (.int x), some (.int y), some (.int w), some (.int li), some (.int v)] [] s := by
            intro f26
            induction f26 with
            | zero =>
              intro c li v Ev hc hli hf26
              exact absurd hf26 (by omega)
            | succ f26 ih26 =>
              intro c li v Ev hc hli hf26
              refine G_iload C 28 dX11_wordFrom_26 rfl rfl ?_
              refine G_bipush (v := 8) C 30 dX11_wordFrom_28 rfl rfl ?_
              refine G_icmp_ge C 88 33 dX11_wordFrom_30 rfl rfl (fun c30 => ?_) (fun c30 => ?_)
              ·
                have n30 : ¬ c < 8 := fun h => c30 ((g_ltN (a := c) (b := 8) (hx := Ev) (hy := rfl) (by omega) (by omega)).mpr h)
                refine G_iload C 90 dX11_wordFrom_88 rfl rfl ?_
                refine G_if_eq C 95 93 dX11_wordFrom_90 rfl rfl (fun c90 => ?_) (fun c90 => ?_)
                ·
                  refine G_iinc (w := 1) C 98 dX11_wordFrom_95 rfl rfl rfl rfl (fun x95 ex95 => ?_)
                  have Nx95 : x95 = nI (k + 1) := g_addN ex95 Ew rfl
                  show GW SM E _ 98 [some (.ref (e_ad E 0)), some (.int x), some (.int y), some (.int x95), some (.int li), some (.int v)] [] s
                  refine G_goto C 2 dX11_wordFrom_98 rfl ?_
                  refine G_drop (L' := [some (.ref (e_ad E 0)), some (.int x), some (.int y), some (.int x95), none, none]) ⟨rfl, rfl, rfl, rfl, trivial⟩ ?_
                  exact ih2 (k + 1) x95  (g_cn (a := (k + 1)) Nx95 (by first | rfl | omega | (simp only [List.length_cons, List.length_drop]; done) | (simp only [List.length_cons, List.length_drop]; omega))) (by omega) (fun q hq => by
                        by_cases e : q = k
                        · rw [e]
                          rcases hli with z | z
                          · exact absurd (z.1.symm.trans c90) (by decide)
                          · exact z.2
                        · exact hno q (by omega)) (by omega)
                ·
                  refine G_iload_n (i := 3) C 94 dX11_wordFrom_93 rfl rfl rfl ?_
                  exact G_iret C dX11_wordFrom_94 (⟨rfl, k, by omega, Ew, fun _ => (t_lk (by omega) hl).mp (by
                        have hz := hli.resolve_right (fun z => c90 z.1)
                        exact ⟨hz.2.1, fun q hq => hz.2.2 q (by omega)⟩), hno⟩)
              ·
                have n30 : c < 8 := (g_ltN (a := c) (b := 8) (hx := Ev) (hy := rfl) (by omega) (by omega)).mp c30
                refine G_iload C 35 dX11_wordFrom_33 rfl rfl ?_
                refine G_if_eq C 88 38 dX11_wordFrom_35 rfl rfl (fun c35 => ?_) (fun c35 => ?_)
                ·
                  refine G_iload C 90 dX11_wordFrom_88 rfl rfl ?_
                  refine G_if_eq C 95 93 dX11_wordFrom_90 rfl rfl (fun c90 => ?_) (fun c90 => ?_)
                  ·
                    refine G_iinc (w := 1) C 98 dX11_wordFrom_95 rfl rfl rfl rfl (fun x95 ex95 => ?_)
                    have Nx95 : x95 = nI (k + 1) := g_addN ex95 Ew rfl
                    show GW SM E _ 98 [some (.ref (e_ad E 0)), some (.int x), some (.int y), some (.int x95), some (.int li), some (.int v)] [] s
                    refine G_goto C 2 dX11_wordFrom_98 rfl ?_
                    refine G_drop (L' := [some (.ref (e_ad E 0)), some (.int x), some (.int y), some (.int x95), none, none]) ⟨rfl, rfl, rfl, rfl, trivial⟩ ?_
                    exact ih2 (k + 1) x95  (g_cn (a := (k + 1)) Nx95 (by first | rfl | omega | (simp only [List.length_cons, List.length_drop]; done) | (simp only [List.length_cons, List.length_drop]; omega))) (by omega) (fun q hq => by
                          by_cases e : q = k
                          · rw [e]
                            rcases hli with z | z
                            · exact absurd (z.1.symm.trans c90) (by decide)
                            · exact z.2
                          · exact hno q (by omega)) (by omega)
                  ·
                    exact absurd c35 c90
                ·
                  refine G_aload_n (i := 0) C 39 dX11_wordFrom_38 rfl rfl rfl ?_
                  refine X11_49g C 42 dX11_wordFrom_39 rfl ?_
                  refine G_bipush (v := 8) C 44 dX11_wordFrom_42 rfl rfl ?_
                  refine G_iload_n (i := 3) C 45 dX11_wordFrom_44 rfl rfl rfl ?_
                  refine G_imul C 46 dX11_wordFrom_45 rfl (fun x45 ex45 => ?_)
                  have Nx45 : x45 = nI (8 * k) := g_mulN ex45 rfl Ew
                  refine G_iload C 48 dX11_wordFrom_46 rfl rfl ?_
                  refine G_iadd C 49 dX11_wordFrom_48 rfl (fun x48 ex48 => ?_)
                  have Nx48 : x48 = nI ((8 * k) + c) := g_addN ex48 Nx45 Ev
                  refine G_iald14 C 50 (((8 * k) + c)) Nx48 (by omega) dX11_wordFrom_49 rfl (fun x49 ex49 => ?_)
                  refine G_iload_n (i := 1) C 51 dX11_wordFrom_50 rfl rfl rfl ?_
                  refine G_iload C 53 dX11_wordFrom_51 rfl rfl ?_
                  refine G_iadd C 54 dX11_wordFrom_53 rfl (fun x53 ex53 => ?_)
                  have Nx53 : x53 = nI (i + c) := g_addN ex53 hx Ev
                  refine G_iload_n (i := 2) C 55 dX11_wordFrom_54 rfl rfl rfl ?_
                  refine G_icmp_ge C 70 58 dX11_wordFrom_55 rfl rfl (fun c55 => ?_) (fun c55 => ?_)
                  ·
                    have n55 : ¬ (i + c) < j := fun h => c55 ((g_ltN (a := (i + c)) (b := j) (hx := Nx53) (hy := hy) (by omega) (by omega)).mpr h)
                    refine G_bipush (v := 32) C 72 dX11_wordFrom_70 rfl rfl ?_
                    refine G_icmp_ne C 79 75 dX11_wordFrom_72 rfl rfl (fun c72 => ?_) (fun c72 => ?_)
                    ·
                      refine G_iconst (v := 0) C 80 dX11_wordFrom_79 rfl rfl ?_
                      refine G_istore (L' := [some (.ref (e_ad E 0)), some (.int x), some (.int y), some (.int w), some (.int 0), some (.int v)]) C 82 dX11_wordFrom_80 rfl (Nat.le_of_ble_eq_true rfl) rfl rfl ?_
                      refine G_iinc (w := 1) C 85 dX11_wordFrom_82 rfl rfl rfl rfl (fun x82 ex82 => ?_)
                      have Nx82 : x82 = nI (c + 1) := g_addN ex82 Ev rfl
                      show GW SM E _ 85 [some (.ref (e_ad E 0)), some (.int x), some (.int y), some (.int w), some (.int 0), some (.int x82)] [] s
                      refine G_goto C 26 dX11_wordFrom_85 rfl ?_
                      exact ih26 (c + 1) 0 x82  (g_cn (a := (c + 1)) Nx82 (by first | rfl | omega | (simp only [List.length_cons, List.length_drop]; done) | (simp only [List.length_cons, List.length_drop]; omega))) (by omega) (by
                            have hz := hli.resolve_right (fun z => c35 z.1)
                            refine Or.inr ⟨rfl, fun hy => ?_⟩
                            have y := ((t_lk (by omega) hl).mpr hy).2 c (by omega)
                            rw [if_neg (by omega)] at y
                            exact c72 (by rw [ex49, y])) (by omega)
                    ·
                      refine G_iconst (v := 1) C 76 dX11_wordFrom_75 rfl rfl ?_
                      refine G_goto C 80 dX11_wordFrom_76 rfl ?_
                      refine G_istore (L' := [some (.ref (e_ad E 0)), some (.int x), some (.int y), some (.int w), some (.int 1), some (.int v)]) C 82 dX11_wordFrom_80 rfl (Nat.le_of_ble_eq_true rfl) rfl rfl ?_
                      refine G_iinc (w := 1) C 85 dX11_wordFrom_82 rfl rfl rfl rfl (fun x82 ex82 => ?_)
                      have Nx82 : x82 = nI (c + 1) := g_addN ex82 Ev rfl
                      show GW SM E _ 85 [some (.ref (e_ad E 0)), some (.int x), some (.int y), some (.int w), some (.int 1), some (.int x82)] [] s
                      refine G_goto C 26 dX11_wordFrom_85 rfl ?_
                      exact ih26 (c + 1) 1 x82  (g_cn (a := (c + 1)) Nx82 (by first | rfl | omega | (simp only [List.length_cons, List.length_drop]; done) | (simp only [List.length_cons, List.length_drop]; omega))) (by omega) (by
                            have hz := hli.resolve_right (fun z => c35 z.1)
                            refine Or.inl ⟨rfl, hz.2.1, fun q hq => ?_⟩
                            by_cases e : q = c
                            · rw [e, ← ex49, c72]; exact (if_neg (by omega)).symm
                            · exact hz.2.2 q (by omega)) (by omega)
                  ·
                    have n55 : (i + c) < j := (g_ltN (a := (i + c)) (b := j) (hx := Nx53) (hy := hy) (by omega) (by omega)).mp c55
                    refine G_aload_n (i := 0) C 59 dX11_wordFrom_58 rfl rfl rfl ?_
                    refine X11_22g C 62 dX11_wordFrom_59 rfl ?_
                    refine G_iload_n (i := 1) C 63 dX11_wordFrom_62 rfl rfl rfl ?_
                    refine G_iload C 65 dX11_wordFrom_63 rfl rfl ?_
                    refine G_iadd C 66 dX11_wordFrom_65 rfl (fun x65 ex65 => ?_)
                    have Nx65 : x65 = nI (i + c) := g_addN ex65 hx Ev
                    refine G_iald (n := 160) C 67 (by decide) (eMk (by decide) _ _ _) ((i + c)) Nx65 (by omega) (by decide) dX11_wordFrom_66 rfl (fun x66 ex66 => ?_)
                    refine G_goto C 72 dX11_wordFrom_67 rfl ?_
                    refine G_icmp_ne C 79 75 dX11_wordFrom_72 rfl rfl (fun c72 => ?_) (fun c72 => ?_)
                    ·
                      refine G_iconst (v := 0) C 80 dX11_wordFrom_79 rfl rfl ?_
                      refine G_istore (L' := [some (.ref (e_ad E 0)), some (.int x), some (.int y), some (.int w), some (.int 0), some (.int v)]) C 82 dX11_wordFrom_80 rfl (Nat.le_of_ble_eq_true rfl) rfl rfl ?_
                      refine G_iinc (w := 1) C 85 dX11_wordFrom_82 rfl rfl rfl rfl (fun x82 ex82 => ?_)
                      have Nx82 : x82 = nI (c + 1) := g_addN ex82 Ev rfl
                      show GW SM E _ 85 [some (.ref (e_ad E 0)), some (.int x), some (.int y), some (.int w), some (.int 0), some (.int x82)] [] s
                      refine G_goto C 26 dX11_wordFrom_85 rfl ?_
                      exact ih26 (c + 1) 0 x82  (g_cn (a := (c + 1)) Nx82 (by first | rfl | omega | (simp only [List.length_cons, List.length_drop]; done) | (simp only [List.length_cons, List.length_drop]; omega))) (by omega) (by
                            have hz := hli.resolve_right (fun z => c35 z.1)
                            refine Or.inr ⟨rfl, fun hy => ?_⟩
                            have y := ((t_lk (by omega) hl).mpr hy).2 c (by omega)
                            rw [if_pos (by omega)] at y
                            exact c72 (by rw [ex49, y, ex66])) (by omega)
                    ·
                      refine G_iconst (v := 1) C 76 dX11_wordFrom_75 rfl rfl ?_
                      refine G_goto C 80 dX11_wordFrom_76 rfl ?_
                      refine G_istore (L' := [some (.ref (e_ad E 0)), some (.int x), some (.int y), some (.int w), some (.int 1), some (.int v)]) C 82 dX11_wordFrom_80 rfl (Nat.le_of_ble_eq_true rfl) rfl rfl ?_
                      refine G_iinc (w := 1) C 85 dX11_wordFrom_82 rfl rfl rfl rfl (fun x82 ex82 => ?_)
                      have Nx82 : x82 = nI (c + 1) := g_addN ex82 Ev rfl
                      show GW SM E _ 85 [some (.ref (e_ad E 0)), some (.int x), some (.int y), some (.int w), some (.int 1), some (.int x82)] [] s
                      refine G_goto C 26 dX11_wordFrom_85 rfl ?_
                      exact ih26 (c + 1) 1 x82  (g_cn (a := (c + 1)) Nx82 (by first | rfl | omega | (simp only [List.length_cons, List.length_drop]; done) | (simp only [List.length_cons, List.length_drop]; omega))) (by omega) (by
                            have hz := hli.resolve_right (fun z => c35 z.1)
                            refine Or.inl ⟨rfl, hz.2.1, fun q hq => ?_⟩
                            by_cases e : q = c
                            · rw [e, ← ex49, c72]; exact (ex66.trans (if_pos (by omega)).symm)
                            · exact hz.2.2 q (by omega)) (by omega)
          exact L26 (8 + 1) 0 0 0  (g_cn (a := 0) rfl (by first | rfl | omega)) (by omega) (Or.inr ⟨rfl, fun hz => by have := ((t_lk (by omega) hl).mpr hz).1; omega⟩) (by omega)
        ·
          have n13 : ¬ 8 < (j - i) := fun h => c13 ((g_ltN (a := 8) (b := (j - i)) (hx := rfl) (hy := Nx10) (by omega) (by omega)).mpr h)
          refine G_iconst (v := 1) C 17 dX11_wordFrom_16 rfl rfl ?_
          refine G_goto C 21 dX11_wordFrom_17 rfl ?_
          refine G_istore (L' := [some (.ref (e_ad E 0)), some (.int x), some (.int y), some (.int w), some (.int 1), none]) C 23 dX11_wordFrom_21 rfl (Nat.le_of_ble_eq_true rfl) rfl rfl ?_
          refine G_iconst (v := 0) C 24 dX11_wordFrom_23 rfl rfl ?_
          refine G_istore (L' := [some (.ref (e_ad E 0)), some (.int x), some (.int y), some (.int w), some (.int 1), some (.int 0)]) C 26 dX11_wordFrom_24 rfl (Nat.le_of_ble_eq_true rfl) rfl rfl ?_
          have L26 : ∀ (f26 : Nat) (c : Nat) (li v : Int32) (Ev : v = nI c) (hc : c ≤ 8) (hli : (li = 1 ∧ j - i ≤ 8 ∧ ∀ q, q < c → mWordF (8 * k + q) = if q < j - i then s 5 (i + q) else 32) ∨ (li = 0 ∧ ¬ t_is (s 5) i (j - i) (t_wd k) = true)), 8 < c + f26 → GW SM E (gFin SM E (gQi SM (fun r s' => s' = s ∧ ∃ k, k ≤ 12 ∧ r = nI k ∧ (k < 12 → t_is (s 5) i (j - i) (t_wd k) = true) ∧ ∀ q, q < k → ¬ t_is (s 5) i (j - i) (t_wd q) = true))) 26 [some (.ref (e_ad E 0)), some (.int x), some (.int y), some (.int w), some (.int li), some (.int v)] [] s := by
            intro f26
            induction f26 with
            | zero =>
              intro c li v Ev hc hli hf26
              exact absurd hf26 (by omega)
            | succ f26 ih26 =>
              intro c li v Ev hc hli hf26
              refine G_iload C 28 dX11_wordFrom_26 rfl rfl ?_
              refine G_bipush (v := 8) C 30 dX11_wordFrom_28 rfl rfl ?_
              refine G_icmp_ge C 88 33 dX11_wordFrom_30 rfl rfl (fun c30 => ?_) (fun c30 => ?_)
              ·
                have n30 : ¬ c < 8 := fun h => c30 ((g_ltN (a := c) (b := 8) (hx := Ev) (hy := rfl) (by omega) (by omega)).mpr h)
                refine G_iload C 90 dX11_wordFrom_88 rfl rfl ?_
                refine G_if_eq C 95 93 dX11_wordFrom_90 rfl rfl (fun c90 => ?_) (fun c90 => ?_)
                ·
                  refine G_iinc (w := 1) C 98 dX11_wordFrom_95 rfl rfl rfl rfl (fun x95 ex95 => ?_)
                  have Nx95 : x95 = nI (k + 1) := g_addN ex95 Ew rfl
                  show GW SM E _ 98 [some (.ref (e_ad E 0)), some (.int x), some (.int y), some (.int x95), some (.int li), some (.int v)] [] s
                  refine G_goto C 2 dX11_wordFrom_98 rfl ?_
                  refine G_drop (L' := [some (.ref (e_ad E 0)), some (.int x), some (.int y), some (.int x95), none, none]) ⟨rfl, rfl, rfl, rfl, trivial⟩ ?_
                  exact ih2 (k + 1) x95  (g_cn (a := (k + 1)) Nx95 (by first | rfl | omega | (simp only [List.length_cons, List.length_drop]; done) | (simp only [List.length_cons, List.length_drop]; omega))) (by omega) (fun q hq => by
                        by_cases e : q = k
                        · rw [e]
                          rcases hli with z | z
                          · exact absurd (z.1.symm.trans c90) (by decide)
                          · exact z.2
                        · exact hno q (by omega)) (by omega)
                ·
                  refine G_iload_n (i := 3) C 94 dX11_wordFrom_93 rfl rfl rfl ?_
                  exact G_iret C dX11_wordFrom_94 (⟨rfl, k, by omega, Ew, fun _ => (t_lk (by omega) hl).mp (by
                        have hz := hli.resolve_right (fun z => c90 z.1)
                        exact ⟨hz.2.1, fun q hq => hz.2.2 q (by omega)⟩), hno⟩)
              ·
                have n30 : c < 8 := (g_ltN (a := c) (b := 8) (hx := Ev) (hy := rfl) (by omega) (by omega)).mp c30
                refine G_iload C 35 dX11_wordFrom_33 rfl rfl ?_
                refine G_if_eq C 88 38 dX11_wordFrom_35 rfl rfl (fun c35 => ?_) (fun c35 => ?_)
                ·
                  refine G_iload C 90 dX11_wordFrom_88 rfl rfl ?_
                  refine G_if_eq C 95 93 dX11_wordFrom_90 rfl rfl (fun c90 => ?_) (fun c90 => ?_)
                  ·
                    refine G_iinc (w := 1) C 98 dX11_wordFrom_95 rfl rfl rfl rfl (fun x95 ex95 => ?_)
                    have Nx95 : x95 = nI (k + 1) := g_addN ex95 Ew rfl
                    show GW SM E _ 98 [some (.ref (e_ad E 0)), some (.int x), some (.int y), some (.int x95), some (.int li), some (.int v)] [] s
                    refine G_goto C 2 dX11_wordFrom_98 rfl ?_
                    refine G_drop (L' := [some (.ref (e_ad E 0)), some (.int x), some (.int y), some (.int x95), none, none]) ⟨rfl, rfl, rfl, rfl, trivial⟩ ?_
                    exact ih2 (k + 1) x95  (g_cn (a := (k + 1)) Nx95 (by first | rfl | omega | (simp only [List.length_cons, List.length_drop]; done) | (simp only [List.length_cons, List.length_drop]; omega))) (by omega) (fun q hq => by
                          by_cases e : q = k
                          · rw [e]
                            rcases hli with z | z
                            · exact absurd (z.1.symm.trans c90) (by decide)
                            · exact z.2
                          · exact hno q (by omega)) (by omega)
                  ·
                    exact absurd c35 c90
                ·
                  refine G_aload_n (i := 0) C 39 dX11_wordFrom_38 rfl rfl rfl ?_
                  refine X11_49g C 42 dX11_wordFrom_39 rfl ?_
                  refine G_bipush (v := 8) C 44 dX11_wordFrom_42 rfl rfl ?_
                  refine G_iload_n (i := 3) C 45 dX11_wordFrom_44 rfl rfl rfl ?_
                  refine G_imul C 46 dX11_wordFrom_45 rfl (fun x45 ex45 => ?_)
                  have Nx45 : x45 = nI (8 * k) := g_mulN ex45 rfl Ew
                  refine G_iload C 48 dX11_wordFrom_46 rfl rfl ?_
                  refine G_iadd C 49 dX11_wordFrom_48 rfl (fun x48 ex48 => ?_)
                  have Nx48 : x48 = nI ((8 * k) + c) := g_addN ex48 Nx45 Ev
                  refine G_iald14 C 50 (((8 * k) + c)) Nx48 (by omega) dX11_wordFrom_49 rfl (fun x49 ex49 => ?_)
                  refine G_iload_n (i := 1) C 51 dX11_wordFrom_50 rfl rfl rfl ?_
                  refine G_iload C 53 dX11_wordFrom_51 rfl rfl ?_
                  refine G_iadd C 54 dX11_wordFrom_53 rfl (fun x53 ex53 => ?_)
                  have Nx53 : x53 = nI (i + c) := g_addN ex53 hx Ev
                  refine G_iload_n (i := 2) C 55 dX11_wordFrom_54 rfl rfl rfl ?_
                  refine G_icmp_ge C 70 58 dX11_wordFrom_55 rfl rfl (fun c55 => ?_) (fun c55 => ?_)
                  ·
                    have n55 : ¬ (i + c) < j := fun h => c55 ((g_ltN (a := (i + c)) (b := j) (hx := Nx53) (hy := hy) (by omega) (by omega)).mpr h)
                    refine G_bipush (v := 32) C 72 dX11_wordFrom_70 rfl rfl ?_
                    refine G_icmp_ne C 79 75 dX11_wordFrom_72 rfl rfl (fun c72 => ?_) (fun c72 => ?_)
                    ·
                      refine G_iconst (v := 0) C 80 dX11_wordFrom_79 rfl rfl ?_
                      refine G_istore (L' := [some (.ref (e_ad E 0)), some (.int x), some (.int y), some (.int w), some (.int 0), some (.int v)]) C 82 dX11_wordFrom_80 rfl (Nat.le_of_ble_eq_true rfl) rfl rfl ?_
                      refine G_iinc (w := 1) C 85 dX11_wordFrom_82 rfl rfl rfl rfl (fun x82 ex82 => ?_)
                      have Nx82 : x82 = nI (c + 1) := g_addN ex82 Ev rfl
                      show GW SM E _ 85 [some (.ref (e_ad E 0)), some (.int x), some (.int y), some (.int w), some (.int 0), some (.int x82)] [] s
                      refine G_goto C 26 dX11_wordFrom_85 rfl ?_
                      exact ih26 (c + 1) 0 x82  (g_cn (a := (c + 1)) Nx82 (by first | rfl | omega | (simp only [List.length_cons, List.length_drop]; done) | (simp only [List.length_cons, List.length_drop]; omega))) (by omega) (by
                            have hz := hli.resolve_right (fun z => c35 z.1)
                            refine Or.inr ⟨rfl, fun hy => ?_⟩
                            have y := ((t_lk (by omega) hl).mpr hy).2 c (by omega)
                            rw [if_neg (by omega)] at y
                            exact c72 (by rw [ex49, y])) (by omega)
                    ·
                      refine G_iconst (v := 1) C 76 dX11_wordFrom_75 rfl rfl ?_
                      refine G_goto C 80 dX11_wordFrom_76 rfl ?_
                      refine G_istore (L' := [some (.ref (e_ad E 0)), some (.int x), some (.int y), some (.int w), some (.int 1), some (.int v)]) C 82 dX11_wordFrom_80 rfl (Nat.le_of_ble_eq_true rfl) rfl rfl ?_
                      refine G_iinc (w := 1) C 85 dX11_wordFrom_82 rfl rfl rfl rfl (fun x82 ex82 => ?_)
                      have Nx82 : x82 = nI (c + 1) := g_addN ex82 Ev rfl
                      show GW SM E _ 85 [some (.ref (e_ad E 0)), some (.int x), some (.int y), some (.int w), some (.int 1), some (.int x82)] [] s
                      refine G_goto C 26 dX11_wordFrom_85 rfl ?_
                      exact ih26 (c + 1) 1 x82  (g_cn (a := (c + 1)) Nx82 (by first | rfl | omega | (simp only [List.length_cons, List.length_drop]; done) | (simp only [List.length_cons, List.length_drop]; omega))) (by omega) (by
                            have hz := hli.resolve_right (fun z => c35 z.1)
                            refine Or.inl ⟨rfl, hz.2.1, fun q hq => ?_⟩
                            by_cases e : q = c
                            · rw [e, ← ex49, c72]; exact (if_neg (by omega)).symm
                            · exact hz.2.2 q (by omega)) (by omega)
                  ·
                    have n55 : (i + c) < j := (g_ltN (a := (i + c)) (b := j) (hx := Nx53) (hy := hy) (by omega) (by omega)).mp c55
                    refine G_aload_n (i := 0) C 59 dX11_wordFrom_58 rfl rfl rfl ?_
                    refine X11_22g C 62 dX11_wordFrom_59 rfl ?_
                    refine G_iload_n (i := 1) C 63 dX11_wordFrom_62 rfl rfl rfl ?_
                    refine G_iload C 65 dX11_wordFrom_63 rfl rfl ?_
                    refine G_iadd C 66 dX11_wordFrom_65 rfl (fun x65 ex65 => ?_)
                    have Nx65 : x65 = nI (i + c) := g_addN ex65 hx Ev
                    refine G_iald (n := 160) C 67 (by decide) (eMk (by decide) _ _ _) ((i + c)) Nx65 (by omega) (by decide) dX11_wordFrom_66 rfl (fun x66 ex66 => ?_)
                    refine G_goto C 72 dX11_wordFrom_67 rfl ?_
                    refine G_icmp_ne C 79 75 dX11_wordFrom_72 rfl rfl (fun c72 => ?_) (fun c72 => ?_)
                    ·
                      refine G_iconst (v := 0) C 80 dX11_wordFrom_79 rfl rfl ?_
                      refine G_istore (L' := [some (.ref (e_ad E 0)), some (.int x), some (.int y), some (.int w), some (.int 0), some (.int v)]) C 82 dX11_wordFrom_80 rfl (Nat.le_of_ble_eq_true rfl) rfl rfl ?_
                      refine G_iinc (w := 1) C 85 dX11_wordFrom_82 rfl rfl rfl rfl (fun x82 ex82 => ?_)
                      have Nx82 : x82 = nI (c + 1) := g_addN ex82 Ev rfl
                      show GW SM E _ 85 [some (.ref (e_ad E 0)), some (.int x), some (.int y), some (.int w), some (.int 0), some (.int x82)] [] s
                      refine G_goto C 26 dX11_wordFrom_85 rfl ?_
                      exact ih26 (c + 1) 0 x82  (g_cn (a := (c + 1)) Nx82 (by first | rfl | omega | (simp only [List.length_cons, List.length_drop]; done) | (simp only [List.length_cons, List.length_drop]; omega))) (by omega) (by
                            have hz := hli.resolve_right (fun z => c35 z.1)
                            refine Or.inr ⟨rfl, fun hy => ?_⟩
                            have y := ((t_lk (by omega) hl).mpr hy).2 c (by omega)
                            rw [if_pos (by omega)] at y
                            exact c72 (by rw [ex49, y, ex66])) (by omega)
                    ·
                      refine G_iconst (v := 1) C 76 dX11_wordFrom_75 rfl rfl ?_
                      refine G_goto C 80 dX11_wordFrom_76 rfl ?_
                      refine G_istore (L' := [some (.ref (e_ad E 0)), some (.int x), some (.int y), some (.int w), some (.int 1), some (.int v)]) C 82 dX11_wordFrom_80 rfl (Nat.le_of_ble_eq_true rfl) rfl rfl ?_
                      refine G_iinc (w := 1) C 85 dX11_wordFrom_82 rfl rfl rfl rfl (fun x82 ex82 => ?_)
                      have Nx82 : x82 = nI (c + 1) := g_addN ex82 Ev rfl
                      show GW SM E _ 85 [some (.ref (e_ad E 0)), some (.int x), some (.int y), some (.int w), some (.int 1), some (.int x82)] [] s
                      refine G_goto C 26 dX11_wordFrom_85 rfl ?_
                      exact ih26 (c + 1) 1 x82  (g_cn (a := (c + 1)) Nx82 (by first | rfl | omega | (simp only [List.length_cons, List.length_drop]; done) | (simp only [List.length_cons, List.length_drop]; omega))) (by omega) (by
                            have hz := hli.resolve_right (fun z => c35 z.1)
                            refine Or.inl ⟨rfl, hz.2.1, fun q hq => ?_⟩
                            by_cases e : q = c
                            · rw [e, ← ex49, c72]; exact (ex66.trans (if_pos (by omega)).symm)
                            · exact hz.2.2 q (by omega)) (by omega)
          exact L26 (8 + 1) 0 1 0  (g_cn (a := 0) rfl (by first | rfl | omega)) (by omega) (Or.inl ⟨rfl, by omega, fun q hq => absurd hq (by omega)⟩) (by omega)
  exact L2 (12 + 1) 0 0  (g_cn (a := 0) rfl (by first | rfl | omega)) (by omega) (fun q hq => absurd hq (by omega)) (by omega)
