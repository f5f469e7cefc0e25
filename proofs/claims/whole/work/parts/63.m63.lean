theorem dX7_add_0 : decode cX7_add 0 = .ok (.aload_n 0, 1) := by decide +kernel
theorem dX7_add_1 : decode cX7_add 1 = .ok (.getfield 21, 3) := by decide +kernel
theorem dX7_add_4 : decode cX7_add 4 = .ok (.sipush 160, 3) := by decide +kernel
theorem dX7_add_7 : decode cX7_add 7 = .ok (.if_icmp .ge 23, 3) := by decide +kernel
theorem dX7_add_10 : decode cX7_add 10 = .ok (.aload_n 0, 1) := by decide +kernel
theorem dX7_add_11 : decode cX7_add 11 = .ok (.getfield 9, 3) := by decide +kernel
theorem dX7_add_14 : decode cX7_add 14 = .ok (.aload_n 0, 1) := by decide +kernel
theorem dX7_add_15 : decode cX7_add 15 = .ok (.getfield 21, 3) := by decide +kernel
theorem dX7_add_18 : decode cX7_add 18 = .ok (.iload_n 1, 1) := by decide +kernel
theorem dX7_add_19 : decode cX7_add 19 = .ok (.iastore, 1) := by decide +kernel
theorem dX7_add_20 : decode cX7_add 20 = .ok (.aload_n 0, 1) := by decide +kernel
theorem dX7_add_21 : decode cX7_add 21 = .ok (.dup, 1) := by decide +kernel
theorem dX7_add_22 : decode cX7_add 22 = .ok (.getfield 21, 3) := by decide +kernel
theorem dX7_add_25 : decode cX7_add 25 = .ok (.iconst 1, 1) := by decide +kernel
theorem dX7_add_26 : decode cX7_add 26 = .ok (.iadd, 1) := by decide +kernel
theorem dX7_add_27 : decode cX7_add 27 = .ok (.putfield 21, 3) := by decide +kernel
theorem dX7_add_30 : decode cX7_add 30 = .ok (.return_, 1) := by decide +kernel
set_option maxHeartbeats 4000000 in
set_option maxRecDepth 100000 in
theorem c_X7_add (d : Nat) (s : gS) (t z : Nat) (ht : t < 6) (hs : s (6 + 4 * t) 3 = nI z) (hz : z < 160) (v : Int32) : gMt SC yX7_add cX7_add 2 none (d + 1) (fun ad => [.ref (ad (6 + 4 * t)), .int v]) s (gQv SC (fun s' => s' = g_up (g_up s (6 + 4 * t + 1) z v) (6 + 4 * t) 3 (nI (z + 1)))) := by
  refine gMt_of SC_ok (by decide +kernel) (fun ad => [some (.ref (ad (6 + 4 * t))), some (.int v)]) (fun _ => rfl) (fun _ => rfl) (fun _ => Nat.le_of_ble_eq_true rfl) (fun E C0 => ?_)
  have C : gCx SC E RX7 cX7_add 2 none (d + 1) := C0
  refine G_aload_n (i := 0) C 1 dX7_add_0 rfl rfl rfl ?_
  refine X7_21g C ht 4 dX7_add_1 rfl (fun x1 ex1 => ?_)
  have Sx1 : x1 = nI z := ex1.trans hs
  refine G_sipush (v := 160) C 7 dX7_add_4 rfl rfl ?_
  refine G_icmp_ge C 30 10 dX7_add_7 rfl rfl (fun c7 => ?_) (fun c7 => ?_)
  ·
    have n7 : ¬ z < 160 := fun hq_ => c7 ((g_ltN (a := z) (b := 160) (hx := Sx1) (hy := rfl) (by omega) (by omega)).mpr hq_)
    exfalso; omega
  ·
    have n7 : z < 160 := (g_ltN (a := z) (b := 160) (hx := Sx1) (hy := rfl) (by omega) (by omega)).mp c7
    refine G_aload_n (i := 0) C 11 dX7_add_10 rfl rfl rfl ?_
    refine X7_9g C ht 14 dX7_add_11 rfl ?_
    refine G_aload_n (i := 0) C 15 dX7_add_14 rfl rfl rfl ?_
    refine X7_21g C ht 18 dX7_add_15 rfl (fun x15 ex15 => ?_)
    have Sx15 : x15 = nI z := ex15.trans hs
    refine G_iload_n (i := 1) C 19 dX7_add_18 rfl rfl rfl ?_
    refine G_iast (n := 160) C 20 (lT ht (by decide)) (fun σ => eTs _ _ σ ht) (z) Sx15 (by omega) (by decide) (Nat.le_of_eq (nT1 ht).symm) dX7_add_19 rfl (fun s19 es19 => ?_)
    refine G_aload_n (i := 0) C 21 dX7_add_20 rfl rfl rfl ?_
    refine G_dup C 22 dX7_add_21 rfl rfl ?_
    refine X7_21g C ht 25 dX7_add_22 rfl (fun x22 ex22 => ?_)
    have Sx22 : x22 = nI z := ex22.trans (show s19 (6 + 4 * t) 3 = nI z by rw [es19, g_up_n (by omega)]; exact hs)
    refine G_iconst (v := 1) C 26 dX7_add_25 rfl rfl ?_
    refine G_iadd C 27 dX7_add_26 rfl (fun x26 ex26 => ?_)
    have Nx26 : x26 = nI (z + 1) := g_addN ex26 Sx22 rfl
    refine X7_21p C ht 30 dX7_add_27 rfl (fun s27 es27 => ?_)
    exact G_vret C dX7_add_30 (by rw [es27, Nx26, es19])
def c_S (a : gS) (t z0 : Nat) (cs : List Nat) : Prop := a (6 + 4 * t) 3 = nI (z0 + cs.length) ∧ ∀ i c, cs[i]? = some c → a (6 + 4 * t + 1) (z0 + i) = x_cl c
def c_F (t z0 : Nat) (a b : gS) : Prop := (∀ k, k ≠ 3 → k ≠ 6 + 4 * t → k ≠ 6 + 4 * t + 1 → b k = a k) ∧ (∀ j, ¬ (2 ≤ j ∧ j < 6) → b 3 j = a 3 j) ∧ (∀ j, j ≠ 3 → b (6 + 4 * t) j = a (6 + 4 * t) j) ∧ ∀ j, j < z0 → b (6 + 4 * t + 1) j = a (6 + 4 * t + 1) j
theorem c_F.rf {t z0 : Nat} {a : gS} : c_F t z0 a a := ⟨fun _ _ _ _ => rfl, fun _ _ => rfl, fun _ _ => rfl, fun _ _ => rfl⟩
theorem c_F.tr {t z0 : Nat} {a b c : gS} (h : c_F t z0 a b) (g : c_F t z0 b c) : c_F t z0 a c := ⟨fun k h1 h2 h3 => (g.1 k h1 h2 h3).trans (h.1 k h1 h2 h3), fun j hj => (g.2.1 j hj).trans (h.2.1 j hj), fun j hj => (g.2.2.1 j hj).trans (h.2.2.1 j hj), fun j hj => (g.2.2.2 j hj).trans (h.2.2.2 j hj)⟩
theorem c_F.le {t z0 z1 : Nat} {a b : gS} (h : c_F t z1 a b) (hz : z0 ≤ z1) : c_F t z0 a b := ⟨h.1, h.2.1, h.2.2.1, fun j hj => h.2.2.2 j (by omega)⟩
theorem c_N.F {t z0 : Nat} {a b : gS} (h : c_N a b) : c_F t z0 a b := ⟨fun k h3 _ _ => h.1 k h3, h.2, fun j _ => by rw [h.1 _ (by omega)], fun j _ => by rw [h.1 _ (by omega)]⟩
theorem c_S_N {t z0 : Nat} {cs : List Nat} {a b : gS} (hS : c_S a t z0 cs) (h : c_N a b) : c_S b t z0 cs := ⟨by rw [h.1 _ (by omega)]; exact hS.1, fun i c hc => by rw [h.1 _ (by omega)]; exact hS.2 i c hc⟩
theorem c_S_put {t z0 c : Nat} {cs : List Nat} {a b : gS} {v : Int32} (hS : c_S a t z0 cs) (hv : v = x_cl c) (e : b = g_up (g_up a (6 + 4 * t + 1) (z0 + cs.length) v) (6 + 4 * t) 3 (nI (z0 + cs.length + 1))) : c_S b t z0 (cs ++ [c]) ∧ c_F t (z0 + cs.length) a b := by
  refine ⟨⟨?_, fun i x hx => ?_⟩, fun k h3 h6 h7 => by rw [e, g_up_n h6, g_up_n h7], fun j _ => by rw [e, g_up_n (by omega), g_up_n (by omega)], fun j hj => by rw [e, g_up_sj, if_neg hj, g_up_n (by omega)], fun j hj => by rw [e, g_up_n (by omega), g_up_sj, if_neg (by omega)]⟩
  · rw [e, g_up_sj, if_pos rfl, List.length_append]
    rfl
  · rw [e, g_up_n (by omega), g_up_sj]
    by_cases hi : i < cs.length
    · rw [List.getElem?_append_left hi] at hx
      rw [if_neg (by omega)]
      exact hS.2 i x hx
    · rw [List.getElem?_append_right (by omega)] at hx
      have hi2 : i = cs.length := Classical.byContradiction (fun y => by
        obtain ⟨w, hw⟩ : ∃ w, i - cs.length = w + 1 := ⟨i - cs.length - 1, by omega⟩
        rw [hw] at hx
        exact absurd hx (by simp))
      rw [hi2, show cs.length - cs.length = 0 by omega] at hx
      rw [if_pos (by omega), hv]
      exact congrArg x_cl (Option.some.inj hx)
