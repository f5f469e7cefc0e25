theorem dX6_isWordAt_0 : decode cX6_isWordAt 0 = .ok (.iload_n 2, 1) := by decide +kernel
theorem dX6_isWordAt_1 : decode cX6_isWordAt 1 = .ok (.istore 4, 2) := by decide +kernel
theorem dX6_isWordAt_3 : decode cX6_isWordAt 3 = .ok (.iload 4, 2) := by decide +kernel
theorem dX6_isWordAt_5 : decode cX6_isWordAt 5 = .ok (.iload_n 3, 1) := by decide +kernel
theorem dX6_isWordAt_6 : decode cX6_isWordAt 6 = .ok (.if_icmp .ge 46, 3) := by decide +kernel
theorem dX6_isWordAt_9 : decode cX6_isWordAt 9 = .ok (.iload_n 1, 1) := by decide +kernel
theorem dX6_isWordAt_10 : decode cX6_isWordAt 10 = .ok (.iload 4, 2) := by decide +kernel
theorem dX6_isWordAt_12 : decode cX6_isWordAt 12 = .ok (.iadd, 1) := by decide +kernel
theorem dX6_isWordAt_13 : decode cX6_isWordAt 13 = .ok (.iload_n 2, 1) := by decide +kernel
theorem dX6_isWordAt_14 : decode cX6_isWordAt 14 = .ok (.isub, 1) := by decide +kernel
theorem dX6_isWordAt_15 : decode cX6_isWordAt 15 = .ok (.istore 5, 2) := by decide +kernel
theorem dX6_isWordAt_17 : decode cX6_isWordAt 17 = .ok (.iload 5, 2) := by decide +kernel
theorem dX6_isWordAt_19 : decode cX6_isWordAt 19 = .ok (.ldc 95, 2) := by decide +kernel
theorem dX6_isWordAt_21 : decode cX6_isWordAt 21 = .ok (.invokevirtual 97, 3) := by decide +kernel
theorem dX6_isWordAt_24 : decode cX6_isWordAt 24 = .ok (.if_icmp .ge 20, 3) := by decide +kernel
theorem dX6_isWordAt_27 : decode cX6_isWordAt 27 = .ok (.ldc 95, 2) := by decide +kernel
theorem dX6_isWordAt_29 : decode cX6_isWordAt 29 = .ok (.iload 5, 2) := by decide +kernel
theorem dX6_isWordAt_31 : decode cX6_isWordAt 31 = .ok (.invokevirtual 101, 3) := by decide +kernel
theorem dX6_isWordAt_34 : decode cX6_isWordAt 34 = .ok (.aload_n 0, 1) := by decide +kernel
theorem dX6_isWordAt_35 : decode cX6_isWordAt 35 = .ok (.getfield 9, 3) := by decide +kernel
theorem dX6_isWordAt_38 : decode cX6_isWordAt 38 = .ok (.iload 4, 2) := by decide +kernel
theorem dX6_isWordAt_40 : decode cX6_isWordAt 40 = .ok (.iaload, 1) := by decide +kernel
theorem dX6_isWordAt_41 : decode cX6_isWordAt 41 = .ok (.if_icmp .eq 5, 3) := by decide +kernel
theorem dX6_isWordAt_44 : decode cX6_isWordAt 44 = .ok (.iconst 0, 1) := by decide +kernel
theorem dX6_isWordAt_45 : decode cX6_isWordAt 45 = .ok (.ireturn, 1) := by decide +kernel
theorem dX6_isWordAt_46 : decode cX6_isWordAt 46 = .ok (.iinc 4 1, 3) := by decide +kernel
theorem dX6_isWordAt_49 : decode cX6_isWordAt 49 = .ok (.goto (-46), 3) := by decide +kernel
theorem dX6_isWordAt_52 : decode cX6_isWordAt 52 = .ok (.iconst 1, 1) := by decide +kernel
theorem dX6_isWordAt_53 : decode cX6_isWordAt 53 = .ok (.ireturn, 1) := by decide +kernel
set_option maxHeartbeats 4000000 in
set_option maxRecDepth 100000 in
theorem c_X6_isWordAt (d : Nat) (s : gS) (a p q : Nat) (va vp vq : Int32) (hva : va = nI a) (hvp : vp = nI p) (hvq : vq = nI q) (hpq : p ≤ q) (hq : q ≤ 160) (ha : a + (q - p) ≤ 64) : gMt SC yX6_isWordAt cX6_isWordAt 6 (some .boolean) (d + 5) (fun ad => [.ref (ad 3), .int va, .int vp, .int vq]) s (gQi SC (fun r s' => s' = s ∧ ((r = 1 ∧ ∀ j, j < q - p → s_b 1 (a + j) = s 4 (p + j)) ∨ (r = 0 ∧ ¬ ∀ j, j < q - p → s_b 1 (a + j) = s 4 (p + j))))) := by
  refine gMt_of SC_ok (by decide +kernel) (fun ad => [some (.ref (ad 3)), some (.int va), some (.int vp), some (.int vq), none, none]) (fun _ => rfl) (fun _ => rfl) (fun _ => Nat.le_of_ble_eq_true rfl) (fun E C0 => ?_)
  have C : gCx SC E RX6 cX6_isWordAt 6 (some .boolean) (d + 5) := C0
  refine G_iload_n (i := 2) C 1 dX6_isWordAt_0 rfl rfl rfl ?_
  refine G_istore (L' := [some (.ref (e_ad E 3)), some (.int va), some (.int vp), some (.int vq), some (.int vp), none]) C 3 dX6_isWordAt_1 rfl (Nat.le_of_ble_eq_true rfl) rfl rfl ?_
  have L3 : ∀ (f3 : Nat) (k : Nat) (w : Int32) (Ew : w = nI k) (hk1 : p ≤ k) (hk2 : k ≤ q) (hno : ∀ j, p ≤ j → j < k → s_b 1 (a + j - p) = s 4 j), q < k + f3 → GW SC E (gFin SC E (gQi SC (fun r s' => s' = s ∧ ((r = 1 ∧ ∀ j, j < q - p → s_b 1 (a + j) = s 4 (p + j)) ∨ (r = 0 ∧ ¬ ∀ j, j < q - p → s_b 1 (a + j) = s 4 (p + j)))))) 3 [some (.ref (e_ad E 3)), some (.int va), some (.int vp), some (.int vq), some (.int w), none] [] s := by
    intro f3
    induction f3 with
    | zero =>
      intro k w Ew hk1 hk2 hno hf3
      exact absurd hf3 (by omega)
    | succ f3 ih3 =>
      intro k w Ew hk1 hk2 hno hf3
      refine G_iload C 5 dX6_isWordAt_3 rfl rfl ?_
      refine G_iload_n (i := 3) C 6 dX6_isWordAt_5 rfl rfl rfl ?_
      refine G_icmp_ge C 52 9 dX6_isWordAt_6 rfl rfl (fun c6 => ?_) (fun c6 => ?_)
      ·
        have n6 : ¬ k < q := fun hq_ => c6 ((g_ltN (a := k) (b := q) (hx := Ew) (hy := hvq) (by omega) (by omega)).mpr hq_)
        refine G_iconst (v := 1) C 53 dX6_isWordAt_52 rfl rfl ?_
        exact G_zret C rfl dX6_isWordAt_53 (⟨rfl, Or.inl ⟨rfl, fun j hj => by have := hno (p + j) (by omega) (by omega); rw [show a + (p + j) - p = a + j by omega] at this; exact this⟩⟩)
      ·
        have n6 : k < q := (g_ltN (a := k) (b := q) (hx := Ew) (hy := hvq) (by omega) (by omega)).mp c6
        refine G_iload_n (i := 1) C 10 dX6_isWordAt_9 rfl rfl rfl ?_
        refine G_iload C 12 dX6_isWordAt_10 rfl rfl ?_
        refine G_iadd C 13 dX6_isWordAt_12 rfl (fun x12 ex12 => ?_)
        have Nx12 : x12 = nI (a + k) := g_addN ex12 hva Ew
        refine G_iload_n (i := 2) C 14 dX6_isWordAt_13 rfl rfl rfl ?_
        refine G_isub C 15 dX6_isWordAt_14 rfl (fun x14 ex14 => ?_)
        have Nx14 : x14 = nI (a + k - p) := g_subN ex14 Nx12 hvp (by omega)
        refine G_istore (L' := [some (.ref (e_ad E 3)), some (.int va), some (.int vp), some (.int vq), some (.int w), some (.int x14)]) C 17 dX6_isWordAt_15 rfl (Nat.le_of_ble_eq_true rfl) rfl rfl ?_
        refine G_iload C 19 dX6_isWordAt_17 rfl rfl ?_
        refine G_ldcS1 C 21 dX6_isWordAt_19 rfl ?_
        refine G_calli 24 (G_runVz (i := 1) C Kc_J0_length_8abf5 KV_X6_97 (by omega) (by decide) rfl (c_J0_length 0 1 (by decide) s) rfl rfl rfl (Nat.le_of_ble_eq_true rfl) rfl dX6_isWordAt_21) rfl (fun x21 s21 h21 => ?_)
        obtain ⟨es21, h21⟩ := h21
        have es21 := es21.symm
        subst es21
        refine G_icmp_ge C 44 27 dX6_isWordAt_24 rfl rfl (fun c24 => ?_) (fun c24 => ?_)
        ·
          have n24 : ¬ (a + k - p) < 64 := fun hq_ => c24 ((g_ltN (a := (a + k - p)) (b := 64) (hx := Nx14) (hy := h21) (by omega) (by omega)).mpr hq_)
          exfalso; omega
        ·
          have n24 : (a + k - p) < 64 := (g_ltN (a := (a + k - p)) (b := 64) (hx := Nx14) (hy := h21) (by omega) (by omega)).mp c24
          refine G_ldcS1 C 29 dX6_isWordAt_27 rfl ?_
          refine G_iload C 31 dX6_isWordAt_29 rfl rfl ?_
          refine G_calli 34 (G_runVz (i := 1) C Kc_J0_charAt_5068e KV_X6_101 (by omega) (by decide) rfl (c_J0_charAt 0 1 ((a + k - p)) (by decide) x14 Nx14 (show (a + k - p) < 64 by omega) s) rfl rfl rfl (Nat.le_of_ble_eq_true rfl) rfl dX6_isWordAt_31) rfl (fun x31 s31 h31 => ?_)
          obtain ⟨es31, h31⟩ := h31
          have es31 := es31.symm
          subst es31
          have Sx31 : x31 = s_b 1 (a + k - p) := h31
          refine G_aload_n (i := 0) C 35 dX6_isWordAt_34 rfl rfl rfl ?_
          refine X6_9g C 38 dX6_isWordAt_35 rfl ?_
          refine G_iload C 40 dX6_isWordAt_38 rfl rfl ?_
          refine G_iald (n := 160) C 41 (by decide) (eTb _ _ _) (k) Ew (by omega) (by decide) dX6_isWordAt_40 rfl (fun x40 ex40 => ?_)
          refine G_icmp_eq C 46 44 dX6_isWordAt_41 rfl rfl (fun c41 => ?_) (fun c41 => ?_)
          ·
            refine G_iinc (w := 1) C 49 dX6_isWordAt_46 rfl rfl rfl rfl (fun x46 ex46 => ?_)
            have Nx46 : x46 = nI (k + 1) := g_addN ex46 Ew rfl
            show GW SC E _ 49 [some (.ref (e_ad E 3)), some (.int va), some (.int vp), some (.int vq), some (.int x46), some (.int x14)] [] s
            refine G_goto C 3 dX6_isWordAt_49 rfl ?_
            refine G_drop (L' := [some (.ref (e_ad E 3)), some (.int va), some (.int vp), some (.int vq), some (.int x46), none]) ⟨rfl, rfl, rfl, rfl, rfl, trivial⟩ ?_
            exact ih3 (k + 1) x46  (g_cn (a := (k + 1)) Nx46 (by first | rfl | omega | (simp only [List.length_cons, List.length_drop]; done) | (simp only [List.length_cons, List.length_drop]; omega))) (by omega) (by omega) (fun j h1 h2 => by
                    by_cases hj : j = k
                    · rw [hj, ← Sx31, ← ex40]; exact c41
                    · exact hno j h1 (by omega)) (by omega)
          ·
            refine G_iconst (v := 0) C 45 dX6_isWordAt_44 rfl rfl ?_
            exact G_zret C rfl dX6_isWordAt_45 (⟨rfl, Or.inr ⟨rfl, fun z => c41 (by rw [Sx31, ex40]; have := z (k - p) (by omega); rw [show a + (k - p) = a + k - p by omega, show p + (k - p) = k by omega] at this; exact this)⟩⟩)
  exact L3 (q + 1) p vp  (g_cn (a := p) hvp (by first | rfl | omega)) (by omega) (by omega) (fun j h1 h2 => absurd h2 (by omega)) (by omega)
