def c_wn : Nat → Nat
  | 0 => 0
  | k + 1 => if k = 64 ∨ s_b 1 k = 32 then c_wn k + 1 else c_wn k
def c_ws : Nat → Nat
  | 0 => 0
  | k + 1 => if k = 64 ∨ s_b 1 k = 32 then k + 1 else c_ws k
def c_pm : Nat → Nat := fun n => [0, 1, 2, 9, 10, 11, 3, 4, 5, 6, 7, 8].getD n 12
def c_wd (n : Nat) : List Int32 := t_wd (c_pm n)
theorem c_ws_le : ∀ k, c_ws k ≤ k := by
  intro k
  induction k with
  | zero => exact Nat.le_refl _
  | succ k ih =>
    unfold c_ws
    split <;> omega
theorem c_sep : ∀ k, k < 65 → (k = 64 ∨ s_b 1 k = 32) → c_wn k < 12 ∧ (c_wd (c_wn k)).length = k - c_ws k ∧ ∀ j, j < k - c_ws k → s_b 1 (c_ws k + j) = (c_wd (c_wn k)).getD j 0 := by decide +kernel
theorem c_wn65 : c_wn 65 = 12 := by decide +kernel
theorem c_isw {f : Nat → Int32} {p n k : Nat} (hk : k < 65) (hs : k = 64 ∨ s_b 1 k = 32) : t_is f p n (c_wd (c_wn k)) = true ↔ n = k - c_ws k ∧ ∀ j, j < n → s_b 1 (c_ws k + j) = f (p + j) := by
  obtain ⟨h1, h2, h3⟩ := c_sep k hk hs
  rw [t_is_iff, h2]
  constructor
  · rintro ⟨ha, hb⟩
    exact ⟨ha, fun j hj => (h3 j (by omega)).trans (hb j hj).symm⟩
  · rintro ⟨ha, hb⟩
    exact ⟨ha, fun j hj => (hb j hj).symm.trans (h3 j (by omega))⟩
theorem dX6_word_0 : decode cX6_word 0 = .ok (.iconst 0, 1) := by decide +kernel
theorem dX6_word_1 : decode cX6_word 1 = .ok (.istore_n 3, 1) := by decide +kernel
theorem dX6_word_2 : decode cX6_word 2 = .ok (.iconst 0, 1) := by decide +kernel
theorem dX6_word_3 : decode cX6_word 3 = .ok (.istore 4, 2) := by decide +kernel
theorem dX6_word_5 : decode cX6_word 5 = .ok (.iconst 0, 1) := by decide +kernel
theorem dX6_word_6 : decode cX6_word 6 = .ok (.istore 5, 2) := by decide +kernel
theorem dX6_word_8 : decode cX6_word 8 = .ok (.iload 5, 2) := by decide +kernel
theorem dX6_word_10 : decode cX6_word 10 = .ok (.ldc 95, 2) := by decide +kernel
theorem dX6_word_12 : decode cX6_word 12 = .ok (.invokevirtual 97, 3) := by decide +kernel
theorem dX6_word_15 : decode cX6_word 15 = .ok (.if_icmp .gt 67, 3) := by decide +kernel
theorem dX6_word_18 : decode cX6_word 18 = .ok (.iload 5, 2) := by decide +kernel
theorem dX6_word_20 : decode cX6_word 20 = .ok (.ldc 95, 2) := by decide +kernel
theorem dX6_word_22 : decode cX6_word 22 = .ok (.invokevirtual 97, 3) := by decide +kernel
theorem dX6_word_25 : decode cX6_word 25 = .ok (.if_icmp .eq 15, 3) := by decide +kernel
theorem dX6_word_28 : decode cX6_word 28 = .ok (.ldc 95, 2) := by decide +kernel
theorem dX6_word_30 : decode cX6_word 30 = .ok (.iload 5, 2) := by decide +kernel
theorem dX6_word_32 : decode cX6_word 32 = .ok (.invokevirtual 101, 3) := by decide +kernel
theorem dX6_word_35 : decode cX6_word 35 = .ok (.bipush 32, 2) := by decide +kernel
theorem dX6_word_37 : decode cX6_word 37 = .ok (.if_icmp .ne 39, 3) := by decide +kernel
theorem dX6_word_40 : decode cX6_word 40 = .ok (.iload 5, 2) := by decide +kernel
theorem dX6_word_42 : decode cX6_word 42 = .ok (.iload 4, 2) := by decide +kernel
theorem dX6_word_44 : decode cX6_word 44 = .ok (.isub, 1) := by decide +kernel
theorem dX6_word_45 : decode cX6_word 45 = .ok (.iload_n 2, 1) := by decide +kernel
theorem dX6_word_46 : decode cX6_word 46 = .ok (.iload_n 1, 1) := by decide +kernel
theorem dX6_word_47 : decode cX6_word 47 = .ok (.isub, 1) := by decide +kernel
theorem dX6_word_48 : decode cX6_word 48 = .ok (.if_icmp .ne 19, 3) := by decide +kernel
theorem dX6_word_51 : decode cX6_word 51 = .ok (.aload_n 0, 1) := by decide +kernel
theorem dX6_word_52 : decode cX6_word 52 = .ok (.iload 4, 2) := by decide +kernel
theorem dX6_word_54 : decode cX6_word 54 = .ok (.iload_n 1, 1) := by decide +kernel
theorem dX6_word_55 : decode cX6_word 55 = .ok (.iload_n 2, 1) := by decide +kernel
theorem dX6_word_56 : decode cX6_word 56 = .ok (.invokevirtual 105, 3) := by decide +kernel
theorem dX6_word_59 : decode cX6_word 59 = .ok (.ifCond .eq 8, 3) := by decide +kernel
theorem dX6_word_62 : decode cX6_word 62 = .ok (.bipush 100, 2) := by decide +kernel
theorem dX6_word_64 : decode cX6_word 64 = .ok (.iload_n 3, 1) := by decide +kernel
theorem dX6_word_65 : decode cX6_word 65 = .ok (.iadd, 1) := by decide +kernel
theorem dX6_word_66 : decode cX6_word 66 = .ok (.ireturn, 1) := by decide +kernel
theorem dX6_word_67 : decode cX6_word 67 = .ok (.iinc 3 1, 3) := by decide +kernel
theorem dX6_word_70 : decode cX6_word 70 = .ok (.iload 5, 2) := by decide +kernel
theorem dX6_word_72 : decode cX6_word 72 = .ok (.iconst 1, 1) := by decide +kernel
theorem dX6_word_73 : decode cX6_word 73 = .ok (.iadd, 1) := by decide +kernel
theorem dX6_word_74 : decode cX6_word 74 = .ok (.istore 4, 2) := by decide +kernel
theorem dX6_word_76 : decode cX6_word 76 = .ok (.iinc 5 1, 3) := by decide +kernel
theorem dX6_word_79 : decode cX6_word 79 = .ok (.goto (-71), 3) := by decide +kernel
theorem dX6_word_82 : decode cX6_word 82 = .ok (.iconst 2, 1) := by decide +kernel
theorem dX6_word_83 : decode cX6_word 83 = .ok (.ireturn, 1) := by decide +kernel
set_option maxHeartbeats 4000000 in
set_option maxRecDepth 100000 in
theorem c_X6_word (d : Nat) (s : gS) (p q : Nat) (vp vq : Int32) (hvp : vp = nI p) (hvq : vq = nI q) (hpq : p ≤ q) (hq : q ≤ 160) : gMt SC yX6_word cX6_word 6 (some .int) (d + 6) (fun ad => [.ref (ad 3), .int vp, .int vq]) s (gQi SC (fun r s' => s' = s ∧ ((∃ n, n < 12 ∧ r = nI (100 + n) ∧ t_is (s 4) p (q - p) (c_wd n) = true) ∨ (r = 2 ∧ ∀ n, n < 12 → ¬ t_is (s 4) p (q - p) (c_wd n) = true)))) := by
  refine gMt_of SC_ok (by decide +kernel) (fun ad => [some (.ref (ad 3)), some (.int vp), some (.int vq), none, none, none]) (fun _ => rfl) (fun _ => rfl) (fun _ => Nat.le_of_ble_eq_true rfl) (fun E C0 => ?_)
  have C : gCx SC E RX6 cX6_word 6 (some .int) (d + 6) := C0
  refine G_iconst (v := 0) C 1 dX6_word_0 rfl rfl ?_
  refine G_istore_n (i := 3) (L' := [some (.ref (e_ad E 3)), some (.int vp), some (.int vq), some (.int 0), none, none]) C 2 dX6_word_1 rfl rfl (Nat.le_of_ble_eq_true rfl) rfl rfl ?_
  refine G_iconst (v := 0) C 3 dX6_word_2 rfl rfl ?_
  refine G_istore (L' := [some (.ref (e_ad E 3)), some (.int vp), some (.int vq), some (.int 0), some (.int 0), none]) C 5 dX6_word_3 rfl (Nat.le_of_ble_eq_true rfl) rfl rfl ?_
  refine G_iconst (v := 0) C 6 dX6_word_5 rfl rfl ?_
  refine G_istore (L' := [some (.ref (e_ad E 3)), some (.int vp), some (.int vq), some (.int 0), some (.int 0), some (.int 0)]) C 8 dX6_word_6 rfl (Nat.le_of_ble_eq_true rfl) rfl rfl ?_
  have L8 : ∀ (f8 : Nat) (k : Nat) (wn ws wi : Int32) (Ewn : wn = nI ((c_wn k))) (Ews : ws = nI ((c_ws k))) (Ewi : wi = nI k) (hk2 : k ≤ 65) (hws : c_ws k ≤ k) (hno : ∀ w, w < c_wn k → ¬ t_is (s 4) p (q - p) (c_wd w) = true), 65 < k + f8 → GW SC E (gFin SC E (gQi SC (fun r s' => s' = s ∧ ((∃ n, n < 12 ∧ r = nI (100 + n) ∧ t_is (s 4) p (q - p) (c_wd n) = true) ∨ (r = 2 ∧ ∀ n, n < 12 → ¬ t_is (s 4) p (q - p) (c_wd n) = true))))) 8 [some (.ref (e_ad E 3)), some (.int vp), some (.int vq), some (.int wn), some (.int ws), some (.int wi)] [] s := by
    intro f8
    induction f8 with
    | zero =>
      intro k wn ws wi Ewn Ews Ewi hk2 hws hno hf8
      exact absurd hf8 (by omega)
    | succ f8 ih8 =>
      intro k wn ws wi Ewn Ews Ewi hk2 hws hno hf8
      refine G_iload C 10 dX6_word_8 rfl rfl ?_
      refine G_ldcS1 C 12 dX6_word_10 rfl ?_
      refine G_calli 15 (G_runVz (i := 1) C Kc_J0_length_8abf5 KV_X6_97 (by omega) (by decide) rfl (c_J0_length 0 1 (by decide) s) rfl rfl rfl (Nat.le_of_ble_eq_true rfl) rfl dX6_word_12) rfl (fun x12 s12 h12 => ?_)
      obtain ⟨es12, h12⟩ := h12
      have es12 := es12.symm
      subst es12
      refine G_icmp_gt C 82 18 dX6_word_15 rfl rfl (fun c15 => ?_) (fun c15 => ?_)
      ·
        have n15 : 64 < k := (g_ltN (a := 64) (b := k) (hx := h12) (hy := Ewi) (by omega) (by omega)).mp c15
        refine G_iconst (v := 2) C 83 dX6_word_82 rfl rfl ?_
        exact G_iret C dX6_word_83 (⟨rfl, Or.inr ⟨rfl, fun w hw => hno w (by rw [show k = 65 by omega, c_wn65]; exact hw)⟩⟩)
      ·
        have n15 : ¬ 64 < k := fun hq_ => c15 ((g_ltN (a := 64) (b := k) (hx := h12) (hy := Ewi) (by omega) (by omega)).mpr hq_)
        refine G_iload C 20 dX6_word_18 rfl rfl ?_
        refine G_ldcS1 C 22 dX6_word_20 rfl ?_
        refine G_calli 25 (G_runVz (i := 1) C Kc_J0_length_8abf5 KV_X6_97 (by omega) (by decide) rfl (c_J0_length 0 1 (by decide) s) rfl rfl rfl (Nat.le_of_ble_eq_true rfl) rfl dX6_word_22) rfl (fun x22 s22 h22 => ?_)
        obtain ⟨es22, h22⟩ := h22
        have es22 := es22.symm
        subst es22
        refine G_icmp_eq C 40 28 dX6_word_25 rfl rfl (fun c25 => ?_) (fun c25 => ?_)
        ·
          have n25 : k = 64 := (g_eqN (a := k) (b := 64) (hx := Ewi) (hy := h22) (by omega) (by omega)).mp c25
          have hsep : k = 64 ∨ s_b 1 k = 32 := Or.inl n25
          have hk65 : k < 65 := by omega
          refine G_iload C 42 dX6_word_40 rfl rfl ?_
          refine G_iload C 44 dX6_word_42 rfl rfl ?_
          refine G_isub C 45 dX6_word_44 rfl (fun x44 ex44 => ?_)
          have Nx44 : x44 = nI (k - c_ws k) := g_subN ex44 Ewi Ews (by omega)
          refine G_iload_n (i := 2) C 46 dX6_word_45 rfl rfl rfl ?_
          refine G_iload_n (i := 1) C 47 dX6_word_46 rfl rfl rfl ?_
          refine G_isub C 48 dX6_word_47 rfl (fun x47 ex47 => ?_)
          have Nx47 : x47 = nI (q - p) := g_subN ex47 hvq hvp (by omega)
          refine G_icmp_ne C 67 51 dX6_word_48 rfl rfl (fun c48 => ?_) (fun c48 => ?_)
          ·
            have n48 : ¬ (k - c_ws k) = (q - p) := fun hq_ => c48 ((g_eqN (a := (k - c_ws k)) (b := (q - p)) (hx := Nx44) (hy := Nx47) (by omega) (by omega)).mpr hq_)
            have hnm : ¬ t_is (s 4) p (q - p) (c_wd (c_wn k)) = true := fun z => n48 ((c_isw hk65 hsep).mp z).1.symm
            have hw1 : c_wn (k + 1) = c_wn k + 1 := if_pos hsep
            have hw2 : c_ws (k + 1) = k + 1 := if_pos hsep
            refine G_iinc (w := 1) C 70 dX6_word_67 rfl rfl rfl rfl (fun x67 ex67 => ?_)
            have Nx67 : x67 = nI ((c_wn k) + 1) := g_addN ex67 Ewn rfl
            show GW SC E _ 70 [some (.ref (e_ad E 3)), some (.int vp), some (.int vq), some (.int x67), some (.int ws), some (.int wi)] [] s
            refine G_iload C 72 dX6_word_70 rfl rfl ?_
            refine G_iconst (v := 1) C 73 dX6_word_72 rfl rfl ?_
            refine G_iadd C 74 dX6_word_73 rfl (fun x73 ex73 => ?_)
            have Nx73 : x73 = nI (k + 1) := g_addN ex73 Ewi rfl
            refine G_istore (L' := [some (.ref (e_ad E 3)), some (.int vp), some (.int vq), some (.int x67), some (.int x73), some (.int wi)]) C 76 dX6_word_74 rfl (Nat.le_of_ble_eq_true rfl) rfl rfl ?_
            refine G_iinc (w := 1) C 79 dX6_word_76 rfl rfl rfl rfl (fun x76 ex76 => ?_)
            have Nx76 : x76 = nI (k + 1) := g_addN ex76 Ewi rfl
            show GW SC E _ 79 [some (.ref (e_ad E 3)), some (.int vp), some (.int vq), some (.int x67), some (.int x73), some (.int x76)] [] s
            refine G_goto C 8 dX6_word_79 rfl ?_
            exact ih8 (k + 1) x67 x73 x76  (g_cn (a := ((c_wn k) + 1)) Nx67 (by first | rfl | omega | (simp only [List.length_cons, List.length_drop]; done) | (simp only [List.length_cons, List.length_drop]; omega))) (g_cn (a := (k + 1)) Nx73 (by first | rfl | omega | (simp only [List.length_cons, List.length_drop]; done) | (simp only [List.length_cons, List.length_drop]; omega))) (g_cn (a := (k + 1)) Nx76 (by first | rfl | omega | (simp only [List.length_cons, List.length_drop]; done) | (simp only [List.length_cons, List.length_drop]; omega))) (by omega) (c_ws_le (k + 1)) (fun w hw => by
                    by_cases hq2 : w = c_wn k
                    · rw [hq2]; exact hnm
                    · exact hno w (by omega)) (by omega)
          ·
            have n48 : (k - c_ws k) = (q - p) := (g_eqN (a := (k - c_ws k)) (b := (q - p)) (hx := Nx44) (hy := Nx47) (by omega) (by omega)).mp c48
            refine G_aload_n (i := 0) C 52 dX6_word_51 rfl rfl rfl ?_
            refine G_iload C 54 dX6_word_52 rfl rfl ?_
            refine G_iload_n (i := 1) C 55 dX6_word_54 rfl rfl rfl ?_
            refine G_iload_n (i := 2) C 56 dX6_word_55 rfl rfl rfl ?_
            refine G_calli 59 (G_runV C Kc_X6_isWordAt KV_X6_105 (by omega) (by decide) (eTp _ _ _) rfl (c_X6_isWordAt 0 s (c_ws k) p q ws vp vq Ews hvp hvq hpq hq (by omega)) rfl rfl rfl (Nat.le_of_ble_eq_true rfl) rfl dX6_word_56) rfl (fun x56 s56 h56 => ?_)
            obtain ⟨es56, h56⟩ := h56
            have es56 := es56.symm
            subst es56
            refine G_if_eq C 67 62 dX6_word_59 rfl rfl (fun c59 => ?_) (fun c59 => ?_)
            ·
              have k59 := (rfl : x56 = x56).symm.trans c59
              have hnm : ¬ t_is (s 4) p (q - p) (c_wd (c_wn k)) = true := fun z => (h56.resolve_left (fun y => absurd (y.1.symm.trans c59) (by decide))).2 ((c_isw hk65 hsep).mp z).2
              have hw1 : c_wn (k + 1) = c_wn k + 1 := if_pos hsep
              have hw2 : c_ws (k + 1) = k + 1 := if_pos hsep
              refine G_iinc (w := 1) C 70 dX6_word_67 rfl rfl rfl rfl (fun x67 ex67 => ?_)
              have Nx67 : x67 = nI ((c_wn k) + 1) := g_addN ex67 Ewn rfl
              show GW SC E _ 70 [some (.ref (e_ad E 3)), some (.int vp), some (.int vq), some (.int x67), some (.int ws), some (.int wi)] [] s
              refine G_iload C 72 dX6_word_70 rfl rfl ?_
              refine G_iconst (v := 1) C 73 dX6_word_72 rfl rfl ?_
              refine G_iadd C 74 dX6_word_73 rfl (fun x73 ex73 => ?_)
              have Nx73 : x73 = nI (k + 1) := g_addN ex73 Ewi rfl
              refine G_istore (L' := [some (.ref (e_ad E 3)), some (.int vp), some (.int vq), some (.int x67), some (.int x73), some (.int wi)]) C 76 dX6_word_74 rfl (Nat.le_of_ble_eq_true rfl) rfl rfl ?_
              refine G_iinc (w := 1) C 79 dX6_word_76 rfl rfl rfl rfl (fun x76 ex76 => ?_)
              have Nx76 : x76 = nI (k + 1) := g_addN ex76 Ewi rfl
              show GW SC E _ 79 [some (.ref (e_ad E 3)), some (.int vp), some (.int vq), some (.int x67), some (.int x73), some (.int x76)] [] s
              refine G_goto C 8 dX6_word_79 rfl ?_
              exact ih8 (k + 1) x67 x73 x76  (g_cn (a := ((c_wn k) + 1)) Nx67 (by first | rfl | omega | (simp only [List.length_cons, List.length_drop]; done) | (simp only [List.length_cons, List.length_drop]; omega))) (g_cn (a := (k + 1)) Nx73 (by first | rfl | omega | (simp only [List.length_cons, List.length_drop]; done) | (simp only [List.length_cons, List.length_drop]; omega))) (g_cn (a := (k + 1)) Nx76 (by first | rfl | omega | (simp only [List.length_cons, List.length_drop]; done) | (simp only [List.length_cons, List.length_drop]; omega))) (by omega) (c_ws_le (k + 1)) (fun w hw => by
                      by_cases hq2 : w = c_wn k
                      · rw [hq2]; exact hnm
                      · exact hno w (by omega)) (by omega)
            ·
              have k59 := g_neT (rfl : x56 = x56) c59
              refine G_bipush (v := 100) C 64 dX6_word_62 rfl rfl ?_
              refine G_iload_n (i := 3) C 65 dX6_word_64 rfl rfl rfl ?_
              refine G_iadd C 66 dX6_word_65 rfl (fun x65 ex65 => ?_)
              have Nx65 : x65 = nI (100 + (c_wn k)) := g_addN ex65 rfl Ewn
              exact G_iret C dX6_word_66 (⟨rfl, Or.inl ⟨c_wn k, (c_sep k hk65 hsep).1, Nx65, (c_isw hk65 hsep).mpr ⟨n48.symm, (h56.resolve_right (fun y => c59 y.1)).2⟩⟩⟩)
        ·
          have n25 : ¬ k = 64 := fun hq_ => c25 ((g_eqN (a := k) (b := 64) (hx := Ewi) (hy := h22) (by omega) (by omega)).mpr hq_)
          refine G_ldcS1 C 30 dX6_word_28 rfl ?_
          refine G_iload C 32 dX6_word_30 rfl rfl ?_
          refine G_calli 35 (G_runVz (i := 1) C Kc_J0_charAt_5068e KV_X6_101 (by omega) (by decide) rfl (c_J0_charAt 0 1 (k) (by decide) wi Ewi (show k < 64 by omega) s) rfl rfl rfl (Nat.le_of_ble_eq_true rfl) rfl dX6_word_32) rfl (fun x32 s32 h32 => ?_)
          obtain ⟨es32, h32⟩ := h32
          have es32 := es32.symm
          subst es32
          have Sx32 : x32 = s_b 1 k := h32
          refine G_bipush (v := 32) C 37 dX6_word_35 rfl rfl ?_
          refine G_icmp_ne C 76 40 dX6_word_37 rfl rfl (fun c37 => ?_) (fun c37 => ?_)
          ·
            have hns : ¬ (k = 64 ∨ s_b 1 k = 32) := fun z => z.elim n25 (fun y => c37 (Sx32.trans y))
            have hw1 : c_wn (k + 1) = c_wn k := if_neg hns
            have hw2 : c_ws (k + 1) = c_ws k := if_neg hns
            refine G_iinc (w := 1) C 79 dX6_word_76 rfl rfl rfl rfl (fun x76 ex76 => ?_)
            have Nx76 : x76 = nI (k + 1) := g_addN ex76 Ewi rfl
            show GW SC E _ 79 [some (.ref (e_ad E 3)), some (.int vp), some (.int vq), some (.int wn), some (.int ws), some (.int x76)] [] s
            refine G_goto C 8 dX6_word_79 rfl ?_
            exact ih8 (k + 1) wn ws x76  (g_cn (a := (c_wn k)) Ewn (by first | rfl | omega | (simp only [List.length_cons, List.length_drop]; done) | (simp only [List.length_cons, List.length_drop]; omega))) (g_cn (a := (c_ws k)) Ews (by first | rfl | omega | (simp only [List.length_cons, List.length_drop]; done) | (simp only [List.length_cons, List.length_drop]; omega))) (g_cn (a := (k + 1)) Nx76 (by first | rfl | omega | (simp only [List.length_cons, List.length_drop]; done) | (simp only [List.length_cons, List.length_drop]; omega))) (by omega) (c_ws_le (k + 1)) (fun w hw => hno w (by omega)) (by omega)
          ·
            have hsep : k = 64 ∨ s_b 1 k = 32 := Or.inr (Sx32.symm.trans c37)
            have hk65 : k < 65 := by omega
            refine G_iload C 42 dX6_word_40 rfl rfl ?_
            refine G_iload C 44 dX6_word_42 rfl rfl ?_
            refine G_isub C 45 dX6_word_44 rfl (fun x44 ex44 => ?_)
            have Nx44 : x44 = nI (k - c_ws k) := g_subN ex44 Ewi Ews (by omega)
            refine G_iload_n (i := 2) C 46 dX6_word_45 rfl rfl rfl ?_
            refine G_iload_n (i := 1) C 47 dX6_word_46 rfl rfl rfl ?_
            refine G_isub C 48 dX6_word_47 rfl (fun x47 ex47 => ?_)
            have Nx47 : x47 = nI (q - p) := g_subN ex47 hvq hvp (by omega)
            refine G_icmp_ne C 67 51 dX6_word_48 rfl rfl (fun c48 => ?_) (fun c48 => ?_)
            ·
              have n48 : ¬ (k - c_ws k) = (q - p) := fun hq_ => c48 ((g_eqN (a := (k - c_ws k)) (b := (q - p)) (hx := Nx44) (hy := Nx47) (by omega) (by omega)).mpr hq_)
              have hnm : ¬ t_is (s 4) p (q - p) (c_wd (c_wn k)) = true := fun z => n48 ((c_isw hk65 hsep).mp z).1.symm
              have hw1 : c_wn (k + 1) = c_wn k + 1 := if_pos hsep
              have hw2 : c_ws (k + 1) = k + 1 := if_pos hsep
              refine G_iinc (w := 1) C 70 dX6_word_67 rfl rfl rfl rfl (fun x67 ex67 => ?_)
              have Nx67 : x67 = nI ((c_wn k) + 1) := g_addN ex67 Ewn rfl
              show GW SC E _ 70 [some (.ref (e_ad E 3)), some (.int vp), some (.int vq), some (.int x67), some (.int ws), some (.int wi)] [] s
              refine G_iload C 72 dX6_word_70 rfl rfl ?_
              refine G_iconst (v := 1) C 73 dX6_word_72 rfl rfl ?_
              refine G_iadd C 74 dX6_word_73 rfl (fun x73 ex73 => ?_)
              have Nx73 : x73 = nI (k + 1) := g_addN ex73 Ewi rfl
              refine G_istore (L' := [some (.ref (e_ad E 3)), some (.int vp), some (.int vq), some (.int x67), some (.int x73), some (.int wi)]) C 76 dX6_word_74 rfl (Nat.le_of_ble_eq_true rfl) rfl rfl ?_
              refine G_iinc (w := 1) C 79 dX6_word_76 rfl rfl rfl rfl (fun x76 ex76 => ?_)
              have Nx76 : x76 = nI (k + 1) := g_addN ex76 Ewi rfl
              show GW SC E _ 79 [some (.ref (e_ad E 3)), some (.int vp), some (.int vq), some (.int x67), some (.int x73), some (.int x76)] [] s
              refine G_goto C 8 dX6_word_79 rfl ?_
              exact ih8 (k + 1) x67 x73 x76  (g_cn (a := ((c_wn k) + 1)) Nx67 (by first | rfl | omega | (simp only [List.length_cons, List.length_drop]; done) | (simp only [List.length_cons, List.length_drop]; omega))) (g_cn (a := (k + 1)) Nx73 (by first | rfl | omega | (simp only [List.length_cons, List.length_drop]; done) | (simp only [List.length_cons, List.length_drop]; omega))) (g_cn (a := (k + 1)) Nx76 (by first | rfl | omega | (simp only [List.length_cons, List.length_drop]; done) | (simp only [List.length_cons, List.length_drop]; omega))) (by omega) (c_ws_le (k + 1)) (fun w hw => by
                      by_cases hq2 : w = c_wn k
                      · rw [hq2]; exact hnm
                      · exact hno w (by omega)) (by omega)
            ·
              have n48 : (k - c_ws k) = (q - p) := (g_eqN (a := (k - c_ws k)) (b := (q - p)) (hx := Nx44) (hy := Nx47) (by omega) (by omega)).mp c48
              refine G_aload_n (i := 0) C 52 dX6_word_51 rfl rfl rfl ?_
              refine G_iload C 54 dX6_word_52 rfl rfl ?_
              refine G_iload_n (i := 1) C 55 dX6_word_54 rfl rfl rfl ?_
              refine G_iload_n (i := 2) C 56 dX6_word_55 rfl rfl rfl ?_
              refine G_calli 59 (G_runV C Kc_X6_isWordAt KV_X6_105 (by omega) (by decide) (eTp _ _ _) rfl (c_X6_isWordAt 0 s (c_ws k) p q ws vp vq Ews hvp hvq hpq hq (by omega)) rfl rfl rfl (Nat.le_of_ble_eq_true rfl) rfl dX6_word_56) rfl (fun x56 s56 h56 => ?_)
              obtain ⟨es56, h56⟩ := h56
              have es56 := es56.symm
              subst es56
              refine G_if_eq C 67 62 dX6_word_59 rfl rfl (fun c59 => ?_) (fun c59 => ?_)
              ·
                have k59 := (rfl : x56 = x56).symm.trans c59
                have hnm : ¬ t_is (s 4) p (q - p) (c_wd (c_wn k)) = true := fun z => (h56.resolve_left (fun y => absurd (y.1.symm.trans c59) (by decide))).2 ((c_isw hk65 hsep).mp z).2
                have hw1 : c_wn (k + 1) = c_wn k + 1 := if_pos hsep
                have hw2 : c_ws (k + 1) = k + 1 := if_pos hsep
                refine G_iinc (w := 1) C 70 dX6_word_67 rfl rfl rfl rfl (fun x67 ex67 => ?_)
                have Nx67 : x67 = nI ((c_wn k) + 1) := g_addN ex67 Ewn rfl
                show GW SC E _ 70 [some (.ref (e_ad E 3)), some (.int vp), some (.int vq), some (.int x67), some (.int ws), some (.int wi)] [] s
                refine G_iload C 72 dX6_word_70 rfl rfl ?_
                refine G_iconst (v := 1) C 73 dX6_word_72 rfl rfl ?_
                refine G_iadd C 74 dX6_word_73 rfl (fun x73 ex73 => ?_)
                have Nx73 : x73 = nI (k + 1) := g_addN ex73 Ewi rfl
                refine G_istore (L' := [some (.ref (e_ad E 3)), some (.int vp), some (.int vq), some (.int x67), some (.int x73), some (.int wi)]) C 76 dX6_word_74 rfl (Nat.le_of_ble_eq_true rfl) rfl rfl ?_
                refine G_iinc (w := 1) C 79 dX6_word_76 rfl rfl rfl rfl (fun x76 ex76 => ?_)
                have Nx76 : x76 = nI (k + 1) := g_addN ex76 Ewi rfl
                show GW SC E _ 79 [some (.ref (e_ad E 3)), some (.int vp), some (.int vq), some (.int x67), some (.int x73), some (.int x76)] [] s
                refine G_goto C 8 dX6_word_79 rfl ?_
                exact ih8 (k + 1) x67 x73 x76  (g_cn (a := ((c_wn k) + 1)) Nx67 (by first | rfl | omega | (simp only [List.length_cons, List.length_drop]; done) | (simp only [List.length_cons, List.length_drop]; omega))) (g_cn (a := (k + 1)) Nx73 (by first | rfl | omega | (simp only [List.length_cons, List.length_drop]; done) | (simp only [List.length_cons, List.length_drop]; omega))) (g_cn (a := (k + 1)) Nx76 (by first | rfl | omega | (simp only [List.length_cons, List.length_drop]; done) | (simp only [List.length_cons, List.length_drop]; omega))) (by omega) (c_ws_le (k + 1)) (fun w hw => by
                        by_cases hq2 : w = c_wn k
                        · rw [hq2]; exact hnm
                        · exact hno w (by omega)) (by omega)
              ·
                have k59 := g_neT (rfl : x56 = x56) c59
                refine G_bipush (v := 100) C 64 dX6_word_62 rfl rfl ?_
                refine G_iload_n (i := 3) C 65 dX6_word_64 rfl rfl rfl ?_
                refine G_iadd C 66 dX6_word_65 rfl (fun x65 ex65 => ?_)
                have Nx65 : x65 = nI (100 + (c_wn k)) := g_addN ex65 rfl Ewn
                exact G_iret C dX6_word_66 (⟨rfl, Or.inl ⟨c_wn k, (c_sep k hk65 hsep).1, Nx65, (c_isw hk65 hsep).mpr ⟨n48.symm, (h56.resolve_right (fun y => c59 y.1)).2⟩⟩⟩)
  exact L8 (65 + 1) 0 0 0 0  (g_cn (a := 0) rfl (by first | rfl | omega)) (g_cn (a := 0) rfl (by first | rfl | omega)) (g_cn (a := 0) rfl (by first | rfl | omega)) (by omega) (c_ws_le 0) (fun w hw => absurd hw (Nat.not_lt_zero w)) (by omega)
