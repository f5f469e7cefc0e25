def x_end (TX : gTX) (t : Nat) : Nat → Nat
  | 0 => (TX t 0).length
  | 1 => (TX t 0).length + (TX t 1).length
  | _ => (TX t 0).length + (TX t 1).length + (TX t 2).length
def x_beg (TX : gTX) (t : Nat) : Nat → Nat
  | 0 => 0
  | j + 1 => x_end TX t j
theorem x_begE {TX : gTX} {t j : Nat} (h : j < 3) : x_end TX t j = x_beg TX t j + (TX t j).length := by
  have : j = 0 ∨ j = 1 ∨ j = 2 := by omega
  rcases this with rfl | rfl | rfl
  · show (TX t 0).length = 0 + (TX t 0).length
    omega
  · rfl
  · rfl
theorem x_begP {TX : gTX} {t j : Nat} (h : ¬ j = 0) : x_end TX t (j - 1) = x_beg TX t j := by
  cases j with
  | zero => exact absurd rfl h
  | succ j => rfl
theorem cT_end {TX : gTX} {σ : gS} {t : Nat} (h : cT TX σ t) {j : Nat} (hj : j < 3) : σ (6 + 4 * t + 2) j = nI (x_end TX t j) := by
  have : j = 0 ∨ j = 1 ∨ j = 2 := by omega
  rcases this with rfl | rfl | rfl
  · exact h.1
  · exact h.2.1
  · exact h.2.2.1
theorem cT_160 {TX : gTX} {σ : gS} {t : Nat} (h : cT TX σ t) {j : Nat} (hj : j < 3) : x_end TX t j ≤ 160 := by
  have h4 := h.2.2.2.1
  have : j = 0 ∨ j = 1 ∨ j = 2 := by omega
  rcases this with rfl | rfl | rfl
  · show (TX t 0).length ≤ 160
    omega
  · show (TX t 0).length + (TX t 1).length ≤ 160
    omega
  · exact h4
theorem cT_step {TX : gTX} {σ : gS} {t : Nat} (h : cT TX σ t) {j k c : Nat} (hj : j < 3) (hc : (TX t j)[k]? = some c) : σ (6 + 4 * t + 1) (x_beg TX t j + k) = x_cl c := by
  refine h.2.2.2.2 _ _ ?_
  have hk := (List.getElem?_eq_some_iff.mp hc).1
  have : j = 0 ∨ j = 1 ∨ j = 2 := by omega
  rcases this with rfl | rfl | rfl
  · show (TX t 0 ++ (TX t 1 ++ TX t 2))[0 + k]? = some c
    rw [Nat.zero_add, List.getElem?_append_left hk]
    exact hc
  · show (TX t 0 ++ (TX t 1 ++ TX t 2))[(TX t 0).length + k]? = some c
    rw [List.getElem?_append_right (by omega), Nat.add_sub_cancel_left, List.getElem?_append_left hk]
    exact hc
  · show (TX t 0 ++ (TX t 1 ++ TX t 2))[(TX t 0).length + (TX t 1).length + k]? = some c
    rw [List.getElem?_append_right (by omega), List.getElem?_append_right (by omega), show (TX t 0).length + (TX t 1).length + k - (TX t 0).length - (TX t 1).length = k by omega]
    exact hc
theorem x_st_all {f nm : Nat → Int32} {c : Nat} {stk : List Int32} (hs : x_stk f stk) (ok : x_ok c) (h : x_tk c ≤ stk.length) (a b : Int32) (ha : 0 < x_tk c → a = f (stk.length - x_tk c)) (hb : 1 < x_tk c → b = f (stk.length - x_tk c + 1)) : x_st nm c stk = x_wo nm c a b :: stk.drop (x_tk c) := by
  have h2 := x_tk2 c
  have : x_tk c = 0 ∨ x_tk c = 1 ∨ x_tk c = 2 := by omega
  rcases this with e | e | e
  · rw [e, x_st0 a b ok e]
    rfl
  · match stk, h, hs with
    | [], h, _ => rw [e] at h; simp at h
    | a0 :: r, h, hs =>
      have e1 := ha (by omega)
      rw [e] at e1
      have e2 : a0 = a := by
        rw [e1]
        exact hs.1.symm
      subst e2
      rw [e, x_st1 _ b e]
      rfl
  · match stk, h, hs with
    | [], h, _ => rw [e] at h; simp at h
    | [_], h, _ => rw [e] at h; simp at h
    | b0 :: a0 :: r, h, hs =>
      have e1 := ha (by omega)
      have e3 := hb (by omega)
      rw [e] at e1 e3
      have e2 : a = a0 := by
        rw [e1]
        exact hs.2.1
      have e4 : b = b0 := by
        rw [e3]
        exact hs.1
      rw [e, ← e2, ← e4, x_st2 a b ok e]
      rfl
theorem x_cl_num {c : Nat} (h : 100000 ≤ c ∧ c < 110000) : x_cl c = nI (c - 100000) := if_pos h.1
theorem x_okP {P : Nat → Prop} {c : Nat} (ok : x_ok c) (hn : 100000 ≤ c → c < 110000 → P c) (h0 : P 0) (h1 : P 1) (h2 : P 2) (h3 : P 3) (h4 : P 4) (h5 : P 5) (h11 : P 11) (h12 : P 12) (h13 : P 13) (h14 : P 14) (h15 : P 15) (h16 : P 16) (h17 : P 17) (h18 : P 18) (h19 : P 19) : P c := by
  rcases ok with ⟨q1, q2⟩ | q | ⟨q1, q2⟩
  · exact hn q1 q2
  · exact c6 q h0 h1 h2 h3 h4 h5
  · have : c = 11 ∨ c = 12 ∨ c = 13 ∨ c = 14 ∨ c = 15 ∨ c = 16 ∨ c = 17 ∨ c = 18 ∨ c = 19 := by omega
    rcases this with rfl | rfl | rfl | rfl | rfl | rfl | rfl | rfl | rfl <;> assumption
theorem x_clampM {lo v : Int32} (hlo : lo = -99 ∨ lo = 0) : (if lo < (if v < 99 then v else 99) then (if v < 99 then v else 99) else lo) = x_clamp lo v := by
  have e99 : (99 : Int32).toInt = 99 := rfl
  have el : lo.toInt = -99 ∨ lo.toInt = 0 := by rcases hlo with rfl | rfl <;> decide
  unfold x_clamp
  by_cases h1 : v < 99
  · rw [if_pos h1]
    repeat' split
    all_goals (first | rfl | (apply Int32.toInt_inj.mp; simp only [Int32.lt_iff_toInt_lt] at *; omega))
  · rw [if_neg h1]
    repeat' split
    all_goals (first | rfl | (apply Int32.toInt_inj.mp; simp only [Int32.lt_iff_toInt_lt] at *; omega))
theorem x_lo01 (j : Nat) : x_lo j = -99 ∨ x_lo j = 0 := by
  unfold x_lo
  split
  · exact Or.inl rfl
  · exact Or.inr rfl
theorem dJ6_bitCount_0f7a4_0 : decode cJ6_bitCount_0f7a4 0 = .ok (.iload_n 0, 1) := by decide +kernel
theorem dJ6_bitCount_0f7a4_1 : decode cJ6_bitCount_0f7a4 1 = .ok (.iload_n 0, 1) := by decide +kernel
theorem dJ6_bitCount_0f7a4_2 : decode cJ6_bitCount_0f7a4 2 = .ok (.iconst 1, 1) := by decide +kernel
theorem dJ6_bitCount_0f7a4_3 : decode cJ6_bitCount_0f7a4 3 = .ok (.iushr, 1) := by decide +kernel
theorem dJ6_bitCount_0f7a4_4 : decode cJ6_bitCount_0f7a4 4 = .ok (.ldc_w 265, 3) := by decide +kernel
theorem dJ6_bitCount_0f7a4_7 : decode cJ6_bitCount_0f7a4 7 = .ok (.iand, 1) := by decide +kernel
theorem dJ6_bitCount_0f7a4_8 : decode cJ6_bitCount_0f7a4 8 = .ok (.isub, 1) := by decide +kernel
theorem dJ6_bitCount_0f7a4_9 : decode cJ6_bitCount_0f7a4 9 = .ok (.istore_n 0, 1) := by decide +kernel
theorem dJ6_bitCount_0f7a4_10 : decode cJ6_bitCount_0f7a4 10 = .ok (.iload_n 0, 1) := by decide +kernel
theorem dJ6_bitCount_0f7a4_11 : decode cJ6_bitCount_0f7a4 11 = .ok (.ldc_w 266, 3) := by decide +kernel
theorem dJ6_bitCount_0f7a4_14 : decode cJ6_bitCount_0f7a4 14 = .ok (.iand, 1) := by decide +kernel
theorem dJ6_bitCount_0f7a4_15 : decode cJ6_bitCount_0f7a4 15 = .ok (.iload_n 0, 1) := by decide +kernel
theorem dJ6_bitCount_0f7a4_16 : decode cJ6_bitCount_0f7a4 16 = .ok (.iconst 2, 1) := by decide +kernel
theorem dJ6_bitCount_0f7a4_17 : decode cJ6_bitCount_0f7a4 17 = .ok (.iushr, 1) := by decide +kernel
theorem dJ6_bitCount_0f7a4_18 : decode cJ6_bitCount_0f7a4 18 = .ok (.ldc_w 266, 3) := by decide +kernel
theorem dJ6_bitCount_0f7a4_21 : decode cJ6_bitCount_0f7a4 21 = .ok (.iand, 1) := by decide +kernel
theorem dJ6_bitCount_0f7a4_22 : decode cJ6_bitCount_0f7a4 22 = .ok (.iadd, 1) := by decide +kernel
theorem dJ6_bitCount_0f7a4_23 : decode cJ6_bitCount_0f7a4 23 = .ok (.istore_n 0, 1) := by decide +kernel
theorem dJ6_bitCount_0f7a4_24 : decode cJ6_bitCount_0f7a4 24 = .ok (.iload_n 0, 1) := by decide +kernel
theorem dJ6_bitCount_0f7a4_25 : decode cJ6_bitCount_0f7a4 25 = .ok (.iload_n 0, 1) := by decide +kernel
theorem dJ6_bitCount_0f7a4_26 : decode cJ6_bitCount_0f7a4 26 = .ok (.iconst 4, 1) := by decide +kernel
theorem dJ6_bitCount_0f7a4_27 : decode cJ6_bitCount_0f7a4 27 = .ok (.iushr, 1) := by decide +kernel
theorem dJ6_bitCount_0f7a4_28 : decode cJ6_bitCount_0f7a4 28 = .ok (.iadd, 1) := by decide +kernel
theorem dJ6_bitCount_0f7a4_29 : decode cJ6_bitCount_0f7a4 29 = .ok (.ldc_w 267, 3) := by decide +kernel
theorem dJ6_bitCount_0f7a4_32 : decode cJ6_bitCount_0f7a4 32 = .ok (.iand, 1) := by decide +kernel
theorem dJ6_bitCount_0f7a4_33 : decode cJ6_bitCount_0f7a4 33 = .ok (.istore_n 0, 1) := by decide +kernel
theorem dJ6_bitCount_0f7a4_34 : decode cJ6_bitCount_0f7a4 34 = .ok (.iload_n 0, 1) := by decide +kernel
theorem dJ6_bitCount_0f7a4_35 : decode cJ6_bitCount_0f7a4 35 = .ok (.iload_n 0, 1) := by decide +kernel
theorem dJ6_bitCount_0f7a4_36 : decode cJ6_bitCount_0f7a4 36 = .ok (.bipush 8, 2) := by decide +kernel
theorem dJ6_bitCount_0f7a4_38 : decode cJ6_bitCount_0f7a4 38 = .ok (.iushr, 1) := by decide +kernel
theorem dJ6_bitCount_0f7a4_39 : decode cJ6_bitCount_0f7a4 39 = .ok (.iadd, 1) := by decide +kernel
theorem dJ6_bitCount_0f7a4_40 : decode cJ6_bitCount_0f7a4 40 = .ok (.istore_n 0, 1) := by decide +kernel
theorem dJ6_bitCount_0f7a4_41 : decode cJ6_bitCount_0f7a4 41 = .ok (.iload_n 0, 1) := by decide +kernel
theorem dJ6_bitCount_0f7a4_42 : decode cJ6_bitCount_0f7a4 42 = .ok (.iload_n 0, 1) := by decide +kernel
theorem dJ6_bitCount_0f7a4_43 : decode cJ6_bitCount_0f7a4 43 = .ok (.bipush 16, 2) := by decide +kernel
theorem dJ6_bitCount_0f7a4_45 : decode cJ6_bitCount_0f7a4 45 = .ok (.iushr, 1) := by decide +kernel
theorem dJ6_bitCount_0f7a4_46 : decode cJ6_bitCount_0f7a4 46 = .ok (.iadd, 1) := by decide +kernel
theorem dJ6_bitCount_0f7a4_47 : decode cJ6_bitCount_0f7a4 47 = .ok (.istore_n 0, 1) := by decide +kernel
theorem dJ6_bitCount_0f7a4_48 : decode cJ6_bitCount_0f7a4 48 = .ok (.iload_n 0, 1) := by decide +kernel
theorem dJ6_bitCount_0f7a4_49 : decode cJ6_bitCount_0f7a4 49 = .ok (.bipush 63, 2) := by decide +kernel
theorem dJ6_bitCount_0f7a4_51 : decode cJ6_bitCount_0f7a4 51 = .ok (.iand, 1) := by decide +kernel
theorem dJ6_bitCount_0f7a4_52 : decode cJ6_bitCount_0f7a4 52 = .ok (.ireturn, 1) := by decide +kernel
set_option maxHeartbeats 4000000 in
set_option maxRecDepth 100000 in
theorem c_J6_bitCount_0f7a4 (d : Nat) (k : Nat) (hk : k < 1024) (v : Int32) (hv : v = nI k) (s : gS) : gMt SC yJ6_bitCount_0f7a4 cJ6_bitCount_0f7a4 1 (some .int) (d + 1) (fun ad => [.int v]) s (gQi SC (fun r s' => s' = s ∧ r = x_cnt v)) := by
  refine gMt_of SC_ok (by decide +kernel) (fun ad => [some (.int v)]) (fun _ => rfl) (fun _ => rfl) (fun _ => Nat.le_of_ble_eq_true rfl) (fun E C0 => ?_)
  have C : gCx SC E RJ6 cJ6_bitCount_0f7a4 1 (some .int) (d + 1) := C0
  refine G_iload_n (i := 0) C 1 dJ6_bitCount_0f7a4_0 rfl rfl rfl ?_
  refine G_iload_n (i := 0) C 2 dJ6_bitCount_0f7a4_1 rfl rfl rfl ?_
  refine G_iconst (v := 1) C 3 dJ6_bitCount_0f7a4_2 rfl rfl ?_
  refine G_iushr C 4 dJ6_bitCount_0f7a4_3 rfl (fun x3 ex3 => ?_)
  refine G_ldcw (v := 1431655765) C 7 w_424 dJ6_bitCount_0f7a4_4 rfl ?_
  refine G_iand C 8 dJ6_bitCount_0f7a4_7 rfl (fun x7 ex7 => ?_)
  refine G_isub C 9 dJ6_bitCount_0f7a4_8 rfl (fun x8 ex8 => ?_)
  refine G_istore_n (i := 0) (L' := [some (.int x8)]) C 10 dJ6_bitCount_0f7a4_9 rfl rfl (Nat.le_of_ble_eq_true rfl) rfl rfl ?_
  refine G_iload_n (i := 0) C 11 dJ6_bitCount_0f7a4_10 rfl rfl rfl ?_
  refine G_ldcw (v := 858993459) C 14 w_425 dJ6_bitCount_0f7a4_11 rfl ?_
  refine G_iand C 15 dJ6_bitCount_0f7a4_14 rfl (fun x14 ex14 => ?_)
  refine G_iload_n (i := 0) C 16 dJ6_bitCount_0f7a4_15 rfl rfl rfl ?_
  refine G_iconst (v := 2) C 17 dJ6_bitCount_0f7a4_16 rfl rfl ?_
  refine G_iushr C 18 dJ6_bitCount_0f7a4_17 rfl (fun x17 ex17 => ?_)
  refine G_ldcw (v := 858993459) C 21 w_425 dJ6_bitCount_0f7a4_18 rfl ?_
  refine G_iand C 22 dJ6_bitCount_0f7a4_21 rfl (fun x21 ex21 => ?_)
  refine G_iadd C 23 dJ6_bitCount_0f7a4_22 rfl (fun x22 ex22 => ?_)
  refine G_istore_n (i := 0) (L' := [some (.int x22)]) C 24 dJ6_bitCount_0f7a4_23 rfl rfl (Nat.le_of_ble_eq_true rfl) rfl rfl ?_
  refine G_iload_n (i := 0) C 25 dJ6_bitCount_0f7a4_24 rfl rfl rfl ?_
  refine G_iload_n (i := 0) C 26 dJ6_bitCount_0f7a4_25 rfl rfl rfl ?_
  refine G_iconst (v := 4) C 27 dJ6_bitCount_0f7a4_26 rfl rfl ?_
  refine G_iushr C 28 dJ6_bitCount_0f7a4_27 rfl (fun x27 ex27 => ?_)
  refine G_iadd C 29 dJ6_bitCount_0f7a4_28 rfl (fun x28 ex28 => ?_)
  refine G_ldcw (v := 252645135) C 32 w_426 dJ6_bitCount_0f7a4_29 rfl ?_
  refine G_iand C 33 dJ6_bitCount_0f7a4_32 rfl (fun x32 ex32 => ?_)
  refine G_istore_n (i := 0) (L' := [some (.int x32)]) C 34 dJ6_bitCount_0f7a4_33 rfl rfl (Nat.le_of_ble_eq_true rfl) rfl rfl ?_
  refine G_iload_n (i := 0) C 35 dJ6_bitCount_0f7a4_34 rfl rfl rfl ?_
  refine G_iload_n (i := 0) C 36 dJ6_bitCount_0f7a4_35 rfl rfl rfl ?_
  refine G_bipush (v := 8) C 38 dJ6_bitCount_0f7a4_36 rfl rfl ?_
  refine G_iushr C 39 dJ6_bitCount_0f7a4_38 rfl (fun x38 ex38 => ?_)
  refine G_iadd C 40 dJ6_bitCount_0f7a4_39 rfl (fun x39 ex39 => ?_)
  refine G_istore_n (i := 0) (L' := [some (.int x39)]) C 41 dJ6_bitCount_0f7a4_40 rfl rfl (Nat.le_of_ble_eq_true rfl) rfl rfl ?_
  refine G_iload_n (i := 0) C 42 dJ6_bitCount_0f7a4_41 rfl rfl rfl ?_
  refine G_iload_n (i := 0) C 43 dJ6_bitCount_0f7a4_42 rfl rfl rfl ?_
  refine G_bipush (v := 16) C 45 dJ6_bitCount_0f7a4_43 rfl rfl ?_
  refine G_iushr C 46 dJ6_bitCount_0f7a4_45 rfl (fun x45 ex45 => ?_)
  refine G_iadd C 47 dJ6_bitCount_0f7a4_46 rfl (fun x46 ex46 => ?_)
  refine G_istore_n (i := 0) (L' := [some (.int x46)]) C 48 dJ6_bitCount_0f7a4_47 rfl rfl (Nat.le_of_ble_eq_true rfl) rfl rfl ?_
  refine G_iload_n (i := 0) C 49 dJ6_bitCount_0f7a4_48 rfl rfl rfl ?_
  refine G_bipush (v := 63) C 51 dJ6_bitCount_0f7a4_49 rfl rfl ?_
  refine G_iand C 52 dJ6_bitCount_0f7a4_51 rfl (fun x51 ex51 => ?_)
  exact G_iret C dJ6_bitCount_0f7a4_52 (⟨rfl, by subst_vars; exact x_bc_cnt _ hk⟩)
theorem dJ9_floorMod_7cf53_0 : decode cJ9_floorMod_7cf53 0 = .ok (.iload_n 0, 1) := by decide +kernel
theorem dJ9_floorMod_7cf53_1 : decode cJ9_floorMod_7cf53 1 = .ok (.iload_n 1, 1) := by decide +kernel
theorem dJ9_floorMod_7cf53_2 : decode cJ9_floorMod_7cf53 2 = .ok (.irem, 1) := by decide +kernel
theorem dJ9_floorMod_7cf53_3 : decode cJ9_floorMod_7cf53 3 = .ok (.istore_n 2, 1) := by decide +kernel
theorem dJ9_floorMod_7cf53_4 : decode cJ9_floorMod_7cf53 4 = .ok (.iload_n 0, 1) := by decide +kernel
theorem dJ9_floorMod_7cf53_5 : decode cJ9_floorMod_7cf53 5 = .ok (.iload_n 1, 1) := by decide +kernel
theorem dJ9_floorMod_7cf53_6 : decode cJ9_floorMod_7cf53 6 = .ok (.ixor, 1) := by decide +kernel
theorem dJ9_floorMod_7cf53_7 : decode cJ9_floorMod_7cf53 7 = .ok (.ifCond .ge 11, 3) := by decide +kernel
theorem dJ9_floorMod_7cf53_10 : decode cJ9_floorMod_7cf53 10 = .ok (.iload_n 2, 1) := by decide +kernel
theorem dJ9_floorMod_7cf53_11 : decode cJ9_floorMod_7cf53 11 = .ok (.ifCond .eq 7, 3) := by decide +kernel
theorem dJ9_floorMod_7cf53_14 : decode cJ9_floorMod_7cf53 14 = .ok (.iload_n 2, 1) := by decide +kernel
theorem dJ9_floorMod_7cf53_15 : decode cJ9_floorMod_7cf53 15 = .ok (.iload_n 1, 1) := by decide +kernel
theorem dJ9_floorMod_7cf53_16 : decode cJ9_floorMod_7cf53 16 = .ok (.iadd, 1) := by decide +kernel
theorem dJ9_floorMod_7cf53_17 : decode cJ9_floorMod_7cf53 17 = .ok (.ireturn, 1) := by decide +kernel
theorem dJ9_floorMod_7cf53_18 : decode cJ9_floorMod_7cf53 18 = .ok (.iload_n 2, 1) := by decide +kernel
theorem dJ9_floorMod_7cf53_19 : decode cJ9_floorMod_7cf53 19 = .ok (.ireturn, 1) := by decide +kernel
set_option maxHeartbeats 4000000 in
set_option maxRecDepth 100000 in
theorem c_J9_floorMod_7cf53 (d : Nat) (x : Int32) (s : gS) : gMt SC yJ9_floorMod_7cf53 cJ9_floorMod_7cf53 3 (some .int) (d + 1) (fun ad => [.int x, .int 9]) s (gQi SC (fun r s' => s' = s ∧ r = fmv x 9)) := by
  refine gMt_of SC_ok (by decide +kernel) (fun ad => [some (.int x), some (.int 9), none]) (fun _ => rfl) (fun _ => rfl) (fun _ => Nat.le_of_ble_eq_true rfl) (fun E C0 => ?_)
  have C : gCx SC E RJ9 cJ9_floorMod_7cf53 3 (some .int) (d + 1) := C0
  refine G_iload_n (i := 0) C 1 dJ9_floorMod_7cf53_0 rfl rfl rfl ?_
  refine G_iload_n (i := 1) C 2 dJ9_floorMod_7cf53_1 rfl rfl rfl ?_
  refine G_irem C 3 dJ9_floorMod_7cf53_2 rfl (by decide) (fun x2 ex2 => ?_)
  refine G_istore_n (i := 2) (L' := [some (.int x), some (.int 9), some (.int x2)]) C 4 dJ9_floorMod_7cf53_3 rfl rfl (Nat.le_of_ble_eq_true rfl) rfl rfl ?_
  refine G_iload_n (i := 0) C 5 dJ9_floorMod_7cf53_4 rfl rfl rfl ?_
  refine G_iload_n (i := 1) C 6 dJ9_floorMod_7cf53_5 rfl rfl rfl ?_
  refine G_ixor C 7 dJ9_floorMod_7cf53_6 rfl (fun x6 ex6 => ?_)
  refine G_if_ge C 18 10 dJ9_floorMod_7cf53_7 rfl rfl (fun c7 => ?_) (fun c7 => ?_)
  ·
    refine G_iload_n (i := 2) C 19 dJ9_floorMod_7cf53_18 rfl rfl rfl ?_
    exact G_iret C dJ9_floorMod_7cf53_19 (⟨rfl, by subst_vars; rw [← x_fm9]; repeat (first | rw [if_pos (by assumption)] | rw [if_neg (by assumption)])⟩)
  ·
    refine G_iload_n (i := 2) C 11 dJ9_floorMod_7cf53_10 rfl rfl rfl ?_
    refine G_if_eq C 18 14 dJ9_floorMod_7cf53_11 rfl rfl (fun c11 => ?_) (fun c11 => ?_)
    ·
      refine G_iload_n (i := 2) C 19 dJ9_floorMod_7cf53_18 rfl rfl rfl ?_
      exact G_iret C dJ9_floorMod_7cf53_19 (⟨rfl, by subst_vars; rw [← x_fm9]; repeat (first | rw [if_pos (by assumption)] | rw [if_neg (by assumption)])⟩)
    ·
      refine G_iload_n (i := 2) C 15 dJ9_floorMod_7cf53_14 rfl rfl rfl ?_
      refine G_iload_n (i := 1) C 16 dJ9_floorMod_7cf53_15 rfl rfl rfl ?_
      refine G_iadd C 17 dJ9_floorMod_7cf53_16 rfl (fun x16 ex16 => ?_)
      exact G_iret C dJ9_floorMod_7cf53_17 (⟨rfl, by subst_vars; rw [← x_fm9]; repeat (first | rw [if_pos (by assumption)] | rw [if_neg (by assumption)])⟩)
theorem dJ9_min_7cf53_0 : decode cJ9_min_7cf53 0 = .ok (.iload_n 0, 1) := by decide +kernel
theorem dJ9_min_7cf53_1 : decode cJ9_min_7cf53 1 = .ok (.iload_n 1, 1) := by decide +kernel
theorem dJ9_min_7cf53_2 : decode cJ9_min_7cf53 2 = .ok (.if_icmp .gt 7, 3) := by decide +kernel
theorem dJ9_min_7cf53_5 : decode cJ9_min_7cf53 5 = .ok (.iload_n 0, 1) := by decide +kernel
theorem dJ9_min_7cf53_6 : decode cJ9_min_7cf53 6 = .ok (.goto 4, 3) := by decide +kernel
theorem dJ9_min_7cf53_9 : decode cJ9_min_7cf53 9 = .ok (.iload_n 1, 1) := by decide +kernel
theorem dJ9_min_7cf53_10 : decode cJ9_min_7cf53 10 = .ok (.ireturn, 1) := by decide +kernel
set_option maxHeartbeats 4000000 in
set_option maxRecDepth 100000 in
theorem c_J9_min_7cf53 (d : Nat) (a b : Int32) (s : gS) : gMt SC yJ9_min_7cf53 cJ9_min_7cf53 2 (some .int) (d + 1) (fun ad => [.int a, .int b]) s (gQi SC (fun r s' => s' = s ∧ r = if b < a then b else a)) := by
  refine gMt_of SC_ok (by decide +kernel) (fun ad => [some (.int a), some (.int b)]) (fun _ => rfl) (fun _ => rfl) (fun _ => Nat.le_of_ble_eq_true rfl) (fun E C0 => ?_)
  have C : gCx SC E RJ9 cJ9_min_7cf53 2 (some .int) (d + 1) := C0
  refine G_iload_n (i := 0) C 1 dJ9_min_7cf53_0 rfl rfl rfl ?_
  refine G_iload_n (i := 1) C 2 dJ9_min_7cf53_1 rfl rfl rfl ?_
  refine G_icmp_gt C 9 5 dJ9_min_7cf53_2 rfl rfl (fun c2 => ?_) (fun c2 => ?_)
  ·
    refine G_iload_n (i := 1) C 10 dJ9_min_7cf53_9 rfl rfl rfl ?_
    exact G_iret C dJ9_min_7cf53_10 (⟨rfl, by repeat (first | rw [if_pos (by assumption)] | rw [if_neg (by assumption)])⟩)
  ·
    refine G_iload_n (i := 0) C 6 dJ9_min_7cf53_5 rfl rfl rfl ?_
    refine G_goto C 10 dJ9_min_7cf53_6 rfl ?_
    exact G_iret C dJ9_min_7cf53_10 (⟨rfl, by repeat (first | rw [if_pos (by assumption)] | rw [if_neg (by assumption)])⟩)
theorem dJ9_max_7cf53_0 : decode cJ9_max_7cf53 0 = .ok (.iload_n 0, 1) := by decide +kernel
theorem dJ9_max_7cf53_1 : decode cJ9_max_7cf53 1 = .ok (.iload_n 1, 1) := by decide +kernel
theorem dJ9_max_7cf53_2 : decode cJ9_max_7cf53 2 = .ok (.if_icmp .lt 7, 3) := by decide +kernel
theorem dJ9_max_7cf53_5 : decode cJ9_max_7cf53 5 = .ok (.iload_n 0, 1) := by decide +kernel
theorem dJ9_max_7cf53_6 : decode cJ9_max_7cf53 6 = .ok (.goto 4, 3) := by decide +kernel
theorem dJ9_max_7cf53_9 : decode cJ9_max_7cf53 9 = .ok (.iload_n 1, 1) := by decide +kernel
theorem dJ9_max_7cf53_10 : decode cJ9_max_7cf53 10 = .ok (.ireturn, 1) := by decide +kernel
set_option maxHeartbeats 4000000 in
set_option maxRecDepth 100000 in
theorem c_J9_max_7cf53 (d : Nat) (a b : Int32) (s : gS) : gMt SC yJ9_max_7cf53 cJ9_max_7cf53 2 (some .int) (d + 1) (fun ad => [.int a, .int b]) s (gQi SC (fun r s' => s' = s ∧ r = if a < b then b else a)) := by
  refine gMt_of SC_ok (by decide +kernel) (fun ad => [some (.int a), some (.int b)]) (fun _ => rfl) (fun _ => rfl) (fun _ => Nat.le_of_ble_eq_true rfl) (fun E C0 => ?_)
  have C : gCx SC E RJ9 cJ9_max_7cf53 2 (some .int) (d + 1) := C0
  refine G_iload_n (i := 0) C 1 dJ9_max_7cf53_0 rfl rfl rfl ?_
  refine G_iload_n (i := 1) C 2 dJ9_max_7cf53_1 rfl rfl rfl ?_
  refine G_icmp_lt C 9 5 dJ9_max_7cf53_2 rfl rfl (fun c2 => ?_) (fun c2 => ?_)
  ·
    refine G_iload_n (i := 1) C 10 dJ9_max_7cf53_9 rfl rfl rfl ?_
    exact G_iret C dJ9_max_7cf53_10 (⟨rfl, by repeat (first | rw [if_pos (by assumption)] | rw [if_neg (by assumption)])⟩)
  ·
    refine G_iload_n (i := 0) C 6 dJ9_max_7cf53_5 rfl rfl rfl ?_
    refine G_goto C 10 dJ9_max_7cf53_6 rfl ?_
    exact G_iret C dJ9_max_7cf53_10 (⟨rfl, by repeat (first | rw [if_pos (by assumption)] | rw [if_neg (by assumption)])⟩)
theorem dX7_valuesTaken_0 : decode cX7_valuesTaken 0 = .ok (.iload_n 0, 1) := by decide +kernel
theorem dX7_valuesTaken_1 : decode cX7_valuesTaken 1 = .ok (.ifCond .ge 15, 3) := by decide +kernel
theorem dX7_valuesTaken_4 : decode cX7_valuesTaken 4 = .ok (.iload_n 0, 1) := by decide +kernel
theorem dX7_valuesTaken_5 : decode cX7_valuesTaken 5 = .ok (.bipush (-106), 2) := by decide +kernel
theorem dX7_valuesTaken_7 : decode cX7_valuesTaken 7 = .ok (.if_icmp .gt 11, 3) := by decide +kernel
theorem dX7_valuesTaken_10 : decode cX7_valuesTaken 10 = .ok (.iload_n 0, 1) := by decide +kernel
theorem dX7_valuesTaken_11 : decode cX7_valuesTaken 11 = .ok (.bipush (-111), 2) := by decide +kernel
theorem dX7_valuesTaken_13 : decode cX7_valuesTaken 13 = .ok (.if_icmp .lt 5, 3) := by decide +kernel
theorem dX7_valuesTaken_16 : decode cX7_valuesTaken 16 = .ok (.iconst 0, 1) := by decide +kernel
theorem dX7_valuesTaken_17 : decode cX7_valuesTaken 17 = .ok (.ireturn, 1) := by decide +kernel
theorem dX7_valuesTaken_18 : decode cX7_valuesTaken 18 = .ok (.iload_n 0, 1) := by decide +kernel
theorem dX7_valuesTaken_19 : decode cX7_valuesTaken 19 = .ok (.bipush (-105), 2) := by decide +kernel
theorem dX7_valuesTaken_21 : decode cX7_valuesTaken 21 = .ok (.if_icmp .eq 9, 3) := by decide +kernel
theorem dX7_valuesTaken_24 : decode cX7_valuesTaken 24 = .ok (.iload_n 0, 1) := by decide +kernel
theorem dX7_valuesTaken_25 : decode cX7_valuesTaken 25 = .ok (.bipush (-112), 2) := by decide +kernel
theorem dX7_valuesTaken_27 : decode cX7_valuesTaken 27 = .ok (.if_icmp .ne 7, 3) := by decide +kernel
theorem dX7_valuesTaken_30 : decode cX7_valuesTaken 30 = .ok (.iconst 1, 1) := by decide +kernel
theorem dX7_valuesTaken_31 : decode cX7_valuesTaken 31 = .ok (.goto 4, 3) := by decide +kernel
theorem dX7_valuesTaken_34 : decode cX7_valuesTaken 34 = .ok (.iconst 2, 1) := by decide +kernel
theorem dX7_valuesTaken_35 : decode cX7_valuesTaken 35 = .ok (.ireturn, 1) := by decide +kernel
set_option maxHeartbeats 4000000 in
set_option maxRecDepth 100000 in
theorem c_X7_valuesTaken_n (d : Nat) (m : Nat) (hm : m < 10000) (v : Int32) (hv : v = nI m) (s : gS) : gMt SC yX7_valuesTaken cX7_valuesTaken 1 (some .int) (d + 1) (fun ad => [.int v]) s (gQi SC (fun r s' => s' = s ∧ r = 0)) := by
  refine gMt_of SC_ok (by decide +kernel) (fun ad => [some (.int v)]) (fun _ => rfl) (fun _ => rfl) (fun _ => Nat.le_of_ble_eq_true rfl) (fun E C0 => ?_)
  have C : gCx SC E RX7 cX7_valuesTaken 1 (some .int) (d + 1) := C0
  refine G_iload_n (i := 0) C 1 dX7_valuesTaken_0 rfl rfl rfl ?_
  refine G_if_ge C 16 4 dX7_valuesTaken_1 rfl rfl (fun c1 => ?_) (fun c1 => ?_)
  ·
    have n1 : ¬ m < 0 := fun h => c1 ((g_ltN (a := m) (b := 0) (hx := hv) (hy := rfl) (by omega) (by omega)).mpr h)
    refine G_iconst (v := 0) C 17 dX7_valuesTaken_16 rfl rfl ?_
    exact G_iret C dX7_valuesTaken_17 (⟨rfl, rfl⟩)
  ·
    have n1 : m < 0 := (g_ltN (a := m) (b := 0) (hx := hv) (hy := rfl) (by omega) (by omega)).mp c1
    exfalso; omega
set_option maxHeartbeats 4000000 in
set_option maxRecDepth 100000 in
theorem c_X7_valuesTaken_0 (d : Nat) (s : gS) : gMt SC yX7_valuesTaken cX7_valuesTaken 1 (some .int) (d + 1) (fun ad => [.int (-106)]) s (gQi SC (fun r s' => s' = s ∧ r = nI (x_tk 0))) := by
  refine gMt_of SC_ok (by decide +kernel) (fun ad => [some (.int (-106))]) (fun _ => rfl) (fun _ => rfl) (fun _ => Nat.le_of_ble_eq_true rfl) (fun E C0 => ?_)
  have C : gCx SC E RX7 cX7_valuesTaken 1 (some .int) (d + 1) := C0
  refine G_iload_n (i := 0) C 1 dX7_valuesTaken_0 rfl rfl rfl ?_
  refine G_if_ge C 16 4 dX7_valuesTaken_1 rfl rfl (fun c => absurd c (by decide)) (fun _ => ?_)
  refine G_iload_n (i := 0) C 5 dX7_valuesTaken_4 rfl rfl rfl ?_
  refine G_bipush (v := (-106)) C 7 dX7_valuesTaken_5 rfl rfl ?_
  refine G_icmp_gt C 18 10 dX7_valuesTaken_7 rfl rfl (fun c => absurd c (by decide)) (fun _ => ?_)
  refine G_iload_n (i := 0) C 11 dX7_valuesTaken_10 rfl rfl rfl ?_
  refine G_bipush (v := (-111)) C 13 dX7_valuesTaken_11 rfl rfl ?_
  refine G_icmp_lt C 18 16 dX7_valuesTaken_13 rfl rfl (fun c => absurd c (by decide)) (fun _ => ?_)
  refine G_iconst (v := 0) C 17 dX7_valuesTaken_16 rfl rfl ?_
  exact G_iret C dX7_valuesTaken_17 (⟨rfl, rfl⟩)
set_option maxHeartbeats 4000000 in
set_option maxRecDepth 100000 in
theorem c_X7_valuesTaken_1 (d : Nat) (s : gS) : gMt SC yX7_valuesTaken cX7_valuesTaken 1 (some .int) (d + 1) (fun ad => [.int (-107)]) s (gQi SC (fun r s' => s' = s ∧ r = nI (x_tk 1))) := by
  refine gMt_of SC_ok (by decide +kernel) (fun ad => [some (.int (-107))]) (fun _ => rfl) (fun _ => rfl) (fun _ => Nat.le_of_ble_eq_true rfl) (fun E C0 => ?_)
  have C : gCx SC E RX7 cX7_valuesTaken 1 (some .int) (d + 1) := C0
  refine G_iload_n (i := 0) C 1 dX7_valuesTaken_0 rfl rfl rfl ?_
  refine G_if_ge C 16 4 dX7_valuesTaken_1 rfl rfl (fun c => absurd c (by decide)) (fun _ => ?_)
  refine G_iload_n (i := 0) C 5 dX7_valuesTaken_4 rfl rfl rfl ?_
  refine G_bipush (v := (-106)) C 7 dX7_valuesTaken_5 rfl rfl ?_
  refine G_icmp_gt C 18 10 dX7_valuesTaken_7 rfl rfl (fun c => absurd c (by decide)) (fun _ => ?_)
  refine G_iload_n (i := 0) C 11 dX7_valuesTaken_10 rfl rfl rfl ?_
  refine G_bipush (v := (-111)) C 13 dX7_valuesTaken_11 rfl rfl ?_
  refine G_icmp_lt C 18 16 dX7_valuesTaken_13 rfl rfl (fun c => absurd c (by decide)) (fun _ => ?_)
  refine G_iconst (v := 0) C 17 dX7_valuesTaken_16 rfl rfl ?_
  exact G_iret C dX7_valuesTaken_17 (⟨rfl, rfl⟩)
set_option maxHeartbeats 4000000 in
set_option maxRecDepth 100000 in
theorem c_X7_valuesTaken_2 (d : Nat) (s : gS) : gMt SC yX7_valuesTaken cX7_valuesTaken 1 (some .int) (d + 1) (fun ad => [.int (-108)]) s (gQi SC (fun r s' => s' = s ∧ r = nI (x_tk 2))) := by
  refine gMt_of SC_ok (by decide +kernel) (fun ad => [some (.int (-108))]) (fun _ => rfl) (fun _ => rfl) (fun _ => Nat.le_of_ble_eq_true rfl) (fun E C0 => ?_)
  have C : gCx SC E RX7 cX7_valuesTaken 1 (some .int) (d + 1) := C0
  refine G_iload_n (i := 0) C 1 dX7_valuesTaken_0 rfl rfl rfl ?_
  refine G_if_ge C 16 4 dX7_valuesTaken_1 rfl rfl (fun c => absurd c (by decide)) (fun _ => ?_)
  refine G_iload_n (i := 0) C 5 dX7_valuesTaken_4 rfl rfl rfl ?_
  refine G_bipush (v := (-106)) C 7 dX7_valuesTaken_5 rfl rfl ?_
  refine G_icmp_gt C 18 10 dX7_valuesTaken_7 rfl rfl (fun c => absurd c (by decide)) (fun _ => ?_)
  refine G_iload_n (i := 0) C 11 dX7_valuesTaken_10 rfl rfl rfl ?_
  refine G_bipush (v := (-111)) C 13 dX7_valuesTaken_11 rfl rfl ?_
  refine G_icmp_lt C 18 16 dX7_valuesTaken_13 rfl rfl (fun c => absurd c (by decide)) (fun _ => ?_)
  refine G_iconst (v := 0) C 17 dX7_valuesTaken_16 rfl rfl ?_
  exact G_iret C dX7_valuesTaken_17 (⟨rfl, rfl⟩)
set_option maxHeartbeats 4000000 in
set_option maxRecDepth 100000 in
theorem c_X7_valuesTaken_3 (d : Nat) (s : gS) : gMt SC yX7_valuesTaken cX7_valuesTaken 1 (some .int) (d + 1) (fun ad => [.int (-109)]) s (gQi SC (fun r s' => s' = s ∧ r = nI (x_tk 3))) := by
  refine gMt_of SC_ok (by decide +kernel) (fun ad => [some (.int (-109))]) (fun _ => rfl) (fun _ => rfl) (fun _ => Nat.le_of_ble_eq_true rfl) (fun E C0 => ?_)
  have C : gCx SC E RX7 cX7_valuesTaken 1 (some .int) (d + 1) := C0
  refine G_iload_n (i := 0) C 1 dX7_valuesTaken_0 rfl rfl rfl ?_
  refine G_if_ge C 16 4 dX7_valuesTaken_1 rfl rfl (fun c => absurd c (by decide)) (fun _ => ?_)
  refine G_iload_n (i := 0) C 5 dX7_valuesTaken_4 rfl rfl rfl ?_
  refine G_bipush (v := (-106)) C 7 dX7_valuesTaken_5 rfl rfl ?_
  refine G_icmp_gt C 18 10 dX7_valuesTaken_7 rfl rfl (fun c => absurd c (by decide)) (fun _ => ?_)
  refine G_iload_n (i := 0) C 11 dX7_valuesTaken_10 rfl rfl rfl ?_
  refine G_bipush (v := (-111)) C 13 dX7_valuesTaken_11 rfl rfl ?_
  refine G_icmp_lt C 18 16 dX7_valuesTaken_13 rfl rfl (fun c => absurd c (by decide)) (fun _ => ?_)
  refine G_iconst (v := 0) C 17 dX7_valuesTaken_16 rfl rfl ?_
  exact G_iret C dX7_valuesTaken_17 (⟨rfl, rfl⟩)
set_option maxHeartbeats 4000000 in
set_option maxRecDepth 100000 in
theorem c_X7_valuesTaken_4 (d : Nat) (s : gS) : gMt SC yX7_valuesTaken cX7_valuesTaken 1 (some .int) (d + 1) (fun ad => [.int (-110)]) s (gQi SC (fun r s' => s' = s ∧ r = nI (x_tk 4))) := by
  refine gMt_of SC_ok (by decide +kernel) (fun ad => [some (.int (-110))]) (fun _ => rfl) (fun _ => rfl) (fun _ => Nat.le_of_ble_eq_true rfl) (fun E C0 => ?_)
  have C : gCx SC E RX7 cX7_valuesTaken 1 (some .int) (d + 1) := C0
  refine G_iload_n (i := 0) C 1 dX7_valuesTaken_0 rfl rfl rfl ?_
  refine G_if_ge C 16 4 dX7_valuesTaken_1 rfl rfl (fun c => absurd c (by decide)) (fun _ => ?_)
  refine G_iload_n (i := 0) C 5 dX7_valuesTaken_4 rfl rfl rfl ?_
  refine G_bipush (v := (-106)) C 7 dX7_valuesTaken_5 rfl rfl ?_
  refine G_icmp_gt C 18 10 dX7_valuesTaken_7 rfl rfl (fun c => absurd c (by decide)) (fun _ => ?_)
  refine G_iload_n (i := 0) C 11 dX7_valuesTaken_10 rfl rfl rfl ?_
  refine G_bipush (v := (-111)) C 13 dX7_valuesTaken_11 rfl rfl ?_
  refine G_icmp_lt C 18 16 dX7_valuesTaken_13 rfl rfl (fun c => absurd c (by decide)) (fun _ => ?_)
  refine G_iconst (v := 0) C 17 dX7_valuesTaken_16 rfl rfl ?_
  exact G_iret C dX7_valuesTaken_17 (⟨rfl, rfl⟩)
set_option maxHeartbeats 4000000 in
set_option maxRecDepth 100000 in
theorem c_X7_valuesTaken_5 (d : Nat) (s : gS) : gMt SC yX7_valuesTaken cX7_valuesTaken 1 (some .int) (d + 1) (fun ad => [.int (-111)]) s (gQi SC (fun r s' => s' = s ∧ r = nI (x_tk 5))) := by
  refine gMt_of SC_ok (by decide +kernel) (fun ad => [some (.int (-111))]) (fun _ => rfl) (fun _ => rfl) (fun _ => Nat.le_of_ble_eq_true rfl) (fun E C0 => ?_)
  have C : gCx SC E RX7 cX7_valuesTaken 1 (some .int) (d + 1) := C0
  refine G_iload_n (i := 0) C 1 dX7_valuesTaken_0 rfl rfl rfl ?_
  refine G_if_ge C 16 4 dX7_valuesTaken_1 rfl rfl (fun c => absurd c (by decide)) (fun _ => ?_)
  refine G_iload_n (i := 0) C 5 dX7_valuesTaken_4 rfl rfl rfl ?_
  refine G_bipush (v := (-106)) C 7 dX7_valuesTaken_5 rfl rfl ?_
  refine G_icmp_gt C 18 10 dX7_valuesTaken_7 rfl rfl (fun c => absurd c (by decide)) (fun _ => ?_)
  refine G_iload_n (i := 0) C 11 dX7_valuesTaken_10 rfl rfl rfl ?_
  refine G_bipush (v := (-111)) C 13 dX7_valuesTaken_11 rfl rfl ?_
  refine G_icmp_lt C 18 16 dX7_valuesTaken_13 rfl rfl (fun c => absurd c (by decide)) (fun _ => ?_)
  refine G_iconst (v := 0) C 17 dX7_valuesTaken_16 rfl rfl ?_
  exact G_iret C dX7_valuesTaken_17 (⟨rfl, rfl⟩)
set_option maxHeartbeats 4000000 in
set_option maxRecDepth 100000 in
theorem c_X7_valuesTaken_11 (d : Nat) (s : gS) : gMt SC yX7_valuesTaken cX7_valuesTaken 1 (some .int) (d + 1) (fun ad => [.int (-103)]) s (gQi SC (fun r s' => s' = s ∧ r = nI (x_tk 11))) := by
  refine gMt_of SC_ok (by decide +kernel) (fun ad => [some (.int (-103))]) (fun _ => rfl) (fun _ => rfl) (fun _ => Nat.le_of_ble_eq_true rfl) (fun E C0 => ?_)
  have C : gCx SC E RX7 cX7_valuesTaken 1 (some .int) (d + 1) := C0
  refine G_iload_n (i := 0) C 1 dX7_valuesTaken_0 rfl rfl rfl ?_
  refine G_if_ge C 16 4 dX7_valuesTaken_1 rfl rfl (fun c => absurd c (by decide)) (fun _ => ?_)
  refine G_iload_n (i := 0) C 5 dX7_valuesTaken_4 rfl rfl rfl ?_
  refine G_bipush (v := (-106)) C 7 dX7_valuesTaken_5 rfl rfl ?_
  refine G_icmp_gt C 18 10 dX7_valuesTaken_7 rfl rfl (fun _ => ?_) (fun c => absurd c (by decide))
  refine G_iload_n (i := 0) C 19 dX7_valuesTaken_18 rfl rfl rfl ?_
  refine G_bipush (v := (-105)) C 21 dX7_valuesTaken_19 rfl rfl ?_
  refine G_icmp_eq C 30 24 dX7_valuesTaken_21 rfl rfl (fun c => absurd c (by decide)) (fun _ => ?_)
  refine G_iload_n (i := 0) C 25 dX7_valuesTaken_24 rfl rfl rfl ?_
  refine G_bipush (v := (-112)) C 27 dX7_valuesTaken_25 rfl rfl ?_
  refine G_icmp_ne C 34 30 dX7_valuesTaken_27 rfl rfl (fun _ => ?_) (fun c => absurd c (by decide))
  refine G_iconst (v := 2) C 35 dX7_valuesTaken_34 rfl rfl ?_
  exact G_iret C dX7_valuesTaken_35 (⟨rfl, rfl⟩)
set_option maxHeartbeats 4000000 in
set_option maxRecDepth 100000 in
theorem c_X7_valuesTaken_12 (d : Nat) (s : gS) : gMt SC yX7_valuesTaken cX7_valuesTaken 1 (some .int) (d + 1) (fun ad => [.int (-104)]) s (gQi SC (fun r s' => s' = s ∧ r = nI (x_tk 12))) := by
  refine gMt_of SC_ok (by decide +kernel) (fun ad => [some (.int (-104))]) (fun _ => rfl) (fun _ => rfl) (fun _ => Nat.le_of_ble_eq_true rfl) (fun E C0 => ?_)
  have C : gCx SC E RX7 cX7_valuesTaken 1 (some .int) (d + 1) := C0
  refine G_iload_n (i := 0) C 1 dX7_valuesTaken_0 rfl rfl rfl ?_
  refine G_if_ge C 16 4 dX7_valuesTaken_1 rfl rfl (fun c => absurd c (by decide)) (fun _ => ?_)
  refine G_iload_n (i := 0) C 5 dX7_valuesTaken_4 rfl rfl rfl ?_
  refine G_bipush (v := (-106)) C 7 dX7_valuesTaken_5 rfl rfl ?_
  refine G_icmp_gt C 18 10 dX7_valuesTaken_7 rfl rfl (fun _ => ?_) (fun c => absurd c (by decide))
  refine G_iload_n (i := 0) C 19 dX7_valuesTaken_18 rfl rfl rfl ?_
  refine G_bipush (v := (-105)) C 21 dX7_valuesTaken_19 rfl rfl ?_
  refine G_icmp_eq C 30 24 dX7_valuesTaken_21 rfl rfl (fun c => absurd c (by decide)) (fun _ => ?_)
  refine G_iload_n (i := 0) C 25 dX7_valuesTaken_24 rfl rfl rfl ?_
  refine G_bipush (v := (-112)) C 27 dX7_valuesTaken_25 rfl rfl ?_
  refine G_icmp_ne C 34 30 dX7_valuesTaken_27 rfl rfl (fun _ => ?_) (fun c => absurd c (by decide))
  refine G_iconst (v := 2) C 35 dX7_valuesTaken_34 rfl rfl ?_
  exact G_iret C dX7_valuesTaken_35 (⟨rfl, rfl⟩)
set_option maxHeartbeats 4000000 in
set_option maxRecDepth 100000 in
theorem c_X7_valuesTaken_13 (d : Nat) (s : gS) : gMt SC yX7_valuesTaken cX7_valuesTaken 1 (some .int) (d + 1) (fun ad => [.int (-105)]) s (gQi SC (fun r s' => s' = s ∧ r = nI (x_tk 13))) := by
  refine gMt_of SC_ok (by decide +kernel) (fun ad => [some (.int (-105))]) (fun _ => rfl) (fun _ => rfl) (fun _ => Nat.le_of_ble_eq_true rfl) (fun E C0 => ?_)
  have C : gCx SC E RX7 cX7_valuesTaken 1 (some .int) (d + 1) := C0
  refine G_iload_n (i := 0) C 1 dX7_valuesTaken_0 rfl rfl rfl ?_
  refine G_if_ge C 16 4 dX7_valuesTaken_1 rfl rfl (fun c => absurd c (by decide)) (fun _ => ?_)
  refine G_iload_n (i := 0) C 5 dX7_valuesTaken_4 rfl rfl rfl ?_
  refine G_bipush (v := (-106)) C 7 dX7_valuesTaken_5 rfl rfl ?_
  refine G_icmp_gt C 18 10 dX7_valuesTaken_7 rfl rfl (fun _ => ?_) (fun c => absurd c (by decide))
  refine G_iload_n (i := 0) C 19 dX7_valuesTaken_18 rfl rfl rfl ?_
  refine G_bipush (v := (-105)) C 21 dX7_valuesTaken_19 rfl rfl ?_
  refine G_icmp_eq C 30 24 dX7_valuesTaken_21 rfl rfl (fun _ => ?_) (fun c => absurd c (by decide))
  refine G_iconst (v := 1) C 31 dX7_valuesTaken_30 rfl rfl ?_
  refine G_goto C 35 dX7_valuesTaken_31 rfl ?_
  exact G_iret C dX7_valuesTaken_35 (⟨rfl, rfl⟩)
set_option maxHeartbeats 4000000 in
set_option maxRecDepth 100000 in
theorem c_X7_valuesTaken_14 (d : Nat) (s : gS) : gMt SC yX7_valuesTaken cX7_valuesTaken 1 (some .int) (d + 1) (fun ad => [.int (-60)]) s (gQi SC (fun r s' => s' = s ∧ r = nI (x_tk 14))) := by
  refine gMt_of SC_ok (by decide +kernel) (fun ad => [some (.int (-60))]) (fun _ => rfl) (fun _ => rfl) (fun _ => Nat.le_of_ble_eq_true rfl) (fun E C0 => ?_)
  have C : gCx SC E RX7 cX7_valuesTaken 1 (some .int) (d + 1) := C0
  refine G_iload_n (i := 0) C 1 dX7_valuesTaken_0 rfl rfl rfl ?_
  refine G_if_ge C 16 4 dX7_valuesTaken_1 rfl rfl (fun c => absurd c (by decide)) (fun _ => ?_)
  refine G_iload_n (i := 0) C 5 dX7_valuesTaken_4 rfl rfl rfl ?_
  refine G_bipush (v := (-106)) C 7 dX7_valuesTaken_5 rfl rfl ?_
  refine G_icmp_gt C 18 10 dX7_valuesTaken_7 rfl rfl (fun _ => ?_) (fun c => absurd c (by decide))
  refine G_iload_n (i := 0) C 19 dX7_valuesTaken_18 rfl rfl rfl ?_
  refine G_bipush (v := (-105)) C 21 dX7_valuesTaken_19 rfl rfl ?_
  refine G_icmp_eq C 30 24 dX7_valuesTaken_21 rfl rfl (fun c => absurd c (by decide)) (fun _ => ?_)
  refine G_iload_n (i := 0) C 25 dX7_valuesTaken_24 rfl rfl rfl ?_
  refine G_bipush (v := (-112)) C 27 dX7_valuesTaken_25 rfl rfl ?_
  refine G_icmp_ne C 34 30 dX7_valuesTaken_27 rfl rfl (fun _ => ?_) (fun c => absurd c (by decide))
  refine G_iconst (v := 2) C 35 dX7_valuesTaken_34 rfl rfl ?_
  exact G_iret C dX7_valuesTaken_35 (⟨rfl, rfl⟩)
set_option maxHeartbeats 4000000 in
set_option maxRecDepth 100000 in
theorem c_X7_valuesTaken_15 (d : Nat) (s : gS) : gMt SC yX7_valuesTaken cX7_valuesTaken 1 (some .int) (d + 1) (fun ad => [.int (-61)]) s (gQi SC (fun r s' => s' = s ∧ r = nI (x_tk 15))) := by
  refine gMt_of SC_ok (by decide +kernel) (fun ad => [some (.int (-61))]) (fun _ => rfl) (fun _ => rfl) (fun _ => Nat.le_of_ble_eq_true rfl) (fun E C0 => ?_)
  have C : gCx SC E RX7 cX7_valuesTaken 1 (some .int) (d + 1) := C0
  refine G_iload_n (i := 0) C 1 dX7_valuesTaken_0 rfl rfl rfl ?_
  refine G_if_ge C 16 4 dX7_valuesTaken_1 rfl rfl (fun c => absurd c (by decide)) (fun _ => ?_)
  refine G_iload_n (i := 0) C 5 dX7_valuesTaken_4 rfl rfl rfl ?_
  refine G_bipush (v := (-106)) C 7 dX7_valuesTaken_5 rfl rfl ?_
  refine G_icmp_gt C 18 10 dX7_valuesTaken_7 rfl rfl (fun _ => ?_) (fun c => absurd c (by decide))
  refine G_iload_n (i := 0) C 19 dX7_valuesTaken_18 rfl rfl rfl ?_
  refine G_bipush (v := (-105)) C 21 dX7_valuesTaken_19 rfl rfl ?_
  refine G_icmp_eq C 30 24 dX7_valuesTaken_21 rfl rfl (fun c => absurd c (by decide)) (fun _ => ?_)
  refine G_iload_n (i := 0) C 25 dX7_valuesTaken_24 rfl rfl rfl ?_
  refine G_bipush (v := (-112)) C 27 dX7_valuesTaken_25 rfl rfl ?_
  refine G_icmp_ne C 34 30 dX7_valuesTaken_27 rfl rfl (fun _ => ?_) (fun c => absurd c (by decide))
  refine G_iconst (v := 2) C 35 dX7_valuesTaken_34 rfl rfl ?_
  exact G_iret C dX7_valuesTaken_35 (⟨rfl, rfl⟩)
set_option maxHeartbeats 4000000 in
set_option maxRecDepth 100000 in
theorem c_X7_valuesTaken_16 (d : Nat) (s : gS) : gMt SC yX7_valuesTaken cX7_valuesTaken 1 (some .int) (d + 1) (fun ad => [.int (-43)]) s (gQi SC (fun r s' => s' = s ∧ r = nI (x_tk 16))) := by
  refine gMt_of SC_ok (by decide +kernel) (fun ad => [some (.int (-43))]) (fun _ => rfl) (fun _ => rfl) (fun _ => Nat.le_of_ble_eq_true rfl) (fun E C0 => ?_)
  have C : gCx SC E RX7 cX7_valuesTaken 1 (some .int) (d + 1) := C0
  refine G_iload_n (i := 0) C 1 dX7_valuesTaken_0 rfl rfl rfl ?_
  refine G_if_ge C 16 4 dX7_valuesTaken_1 rfl rfl (fun c => absurd c (by decide)) (fun _ => ?_)
  refine G_iload_n (i := 0) C 5 dX7_valuesTaken_4 rfl rfl rfl ?_
  refine G_bipush (v := (-106)) C 7 dX7_valuesTaken_5 rfl rfl ?_
  refine G_icmp_gt C 18 10 dX7_valuesTaken_7 rfl rfl (fun _ => ?_) (fun c => absurd c (by decide))
  refine G_iload_n (i := 0) C 19 dX7_valuesTaken_18 rfl rfl rfl ?_
  refine G_bipush (v := (-105)) C 21 dX7_valuesTaken_19 rfl rfl ?_
  refine G_icmp_eq C 30 24 dX7_valuesTaken_21 rfl rfl (fun c => absurd c (by decide)) (fun _ => ?_)
  refine G_iload_n (i := 0) C 25 dX7_valuesTaken_24 rfl rfl rfl ?_
  refine G_bipush (v := (-112)) C 27 dX7_valuesTaken_25 rfl rfl ?_
  refine G_icmp_ne C 34 30 dX7_valuesTaken_27 rfl rfl (fun _ => ?_) (fun c => absurd c (by decide))
  refine G_iconst (v := 2) C 35 dX7_valuesTaken_34 rfl rfl ?_
  exact G_iret C dX7_valuesTaken_35 (⟨rfl, rfl⟩)
set_option maxHeartbeats 4000000 in
set_option maxRecDepth 100000 in
theorem c_X7_valuesTaken_17 (d : Nat) (s : gS) : gMt SC yX7_valuesTaken cX7_valuesTaken 1 (some .int) (d + 1) (fun ad => [.int (-45)]) s (gQi SC (fun r s' => s' = s ∧ r = nI (x_tk 17))) := by
  refine gMt_of SC_ok (by decide +kernel) (fun ad => [some (.int (-45))]) (fun _ => rfl) (fun _ => rfl) (fun _ => Nat.le_of_ble_eq_true rfl) (fun E C0 => ?_)
  have C : gCx SC E RX7 cX7_valuesTaken 1 (some .int) (d + 1) := C0
  refine G_iload_n (i := 0) C 1 dX7_valuesTaken_0 rfl rfl rfl ?_
  refine G_if_ge C 16 4 dX7_valuesTaken_1 rfl rfl (fun c => absurd c (by decide)) (fun _ => ?_)
  refine G_iload_n (i := 0) C 5 dX7_valuesTaken_4 rfl rfl rfl ?_
  refine G_bipush (v := (-106)) C 7 dX7_valuesTaken_5 rfl rfl ?_
  refine G_icmp_gt C 18 10 dX7_valuesTaken_7 rfl rfl (fun _ => ?_) (fun c => absurd c (by decide))
  refine G_iload_n (i := 0) C 19 dX7_valuesTaken_18 rfl rfl rfl ?_
  refine G_bipush (v := (-105)) C 21 dX7_valuesTaken_19 rfl rfl ?_
  refine G_icmp_eq C 30 24 dX7_valuesTaken_21 rfl rfl (fun c => absurd c (by decide)) (fun _ => ?_)
  refine G_iload_n (i := 0) C 25 dX7_valuesTaken_24 rfl rfl rfl ?_
  refine G_bipush (v := (-112)) C 27 dX7_valuesTaken_25 rfl rfl ?_
  refine G_icmp_ne C 34 30 dX7_valuesTaken_27 rfl rfl (fun _ => ?_) (fun c => absurd c (by decide))
  refine G_iconst (v := 2) C 35 dX7_valuesTaken_34 rfl rfl ?_
  exact G_iret C dX7_valuesTaken_35 (⟨rfl, rfl⟩)
set_option maxHeartbeats 4000000 in
set_option maxRecDepth 100000 in
theorem c_X7_valuesTaken_18 (d : Nat) (s : gS) : gMt SC yX7_valuesTaken cX7_valuesTaken 1 (some .int) (d + 1) (fun ad => [.int (-42)]) s (gQi SC (fun r s' => s' = s ∧ r = nI (x_tk 18))) := by
  refine gMt_of SC_ok (by decide +kernel) (fun ad => [some (.int (-42))]) (fun _ => rfl) (fun _ => rfl) (fun _ => Nat.le_of_ble_eq_true rfl) (fun E C0 => ?_)
  have C : gCx SC E RX7 cX7_valuesTaken 1 (some .int) (d + 1) := C0
  refine G_iload_n (i := 0) C 1 dX7_valuesTaken_0 rfl rfl rfl ?_
  refine G_if_ge C 16 4 dX7_valuesTaken_1 rfl rfl (fun c => absurd c (by decide)) (fun _ => ?_)
  refine G_iload_n (i := 0) C 5 dX7_valuesTaken_4 rfl rfl rfl ?_
  refine G_bipush (v := (-106)) C 7 dX7_valuesTaken_5 rfl rfl ?_
  refine G_icmp_gt C 18 10 dX7_valuesTaken_7 rfl rfl (fun _ => ?_) (fun c => absurd c (by decide))
  refine G_iload_n (i := 0) C 19 dX7_valuesTaken_18 rfl rfl rfl ?_
  refine G_bipush (v := (-105)) C 21 dX7_valuesTaken_19 rfl rfl ?_
  refine G_icmp_eq C 30 24 dX7_valuesTaken_21 rfl rfl (fun c => absurd c (by decide)) (fun _ => ?_)
  refine G_iload_n (i := 0) C 25 dX7_valuesTaken_24 rfl rfl rfl ?_
  refine G_bipush (v := (-112)) C 27 dX7_valuesTaken_25 rfl rfl ?_
  refine G_icmp_ne C 34 30 dX7_valuesTaken_27 rfl rfl (fun _ => ?_) (fun c => absurd c (by decide))
  refine G_iconst (v := 2) C 35 dX7_valuesTaken_34 rfl rfl ?_
  exact G_iret C dX7_valuesTaken_35 (⟨rfl, rfl⟩)
set_option maxHeartbeats 4000000 in
set_option maxRecDepth 100000 in
theorem c_X7_valuesTaken_19 (d : Nat) (s : gS) : gMt SC yX7_valuesTaken cX7_valuesTaken 1 (some .int) (d + 1) (fun ad => [.int (-112)]) s (gQi SC (fun r s' => s' = s ∧ r = nI (x_tk 19))) := by
  refine gMt_of SC_ok (by decide +kernel) (fun ad => [some (.int (-112))]) (fun _ => rfl) (fun _ => rfl) (fun _ => Nat.le_of_ble_eq_true rfl) (fun E C0 => ?_)
  have C : gCx SC E RX7 cX7_valuesTaken 1 (some .int) (d + 1) := C0
  refine G_iload_n (i := 0) C 1 dX7_valuesTaken_0 rfl rfl rfl ?_
  refine G_if_ge C 16 4 dX7_valuesTaken_1 rfl rfl (fun c => absurd c (by decide)) (fun _ => ?_)
  refine G_iload_n (i := 0) C 5 dX7_valuesTaken_4 rfl rfl rfl ?_
  refine G_bipush (v := (-106)) C 7 dX7_valuesTaken_5 rfl rfl ?_
  refine G_icmp_gt C 18 10 dX7_valuesTaken_7 rfl rfl (fun c => absurd c (by decide)) (fun _ => ?_)
  refine G_iload_n (i := 0) C 11 dX7_valuesTaken_10 rfl rfl rfl ?_
  refine G_bipush (v := (-111)) C 13 dX7_valuesTaken_11 rfl rfl ?_
  refine G_icmp_lt C 18 16 dX7_valuesTaken_13 rfl rfl (fun _ => ?_) (fun c => absurd c (by decide))
  refine G_iload_n (i := 0) C 19 dX7_valuesTaken_18 rfl rfl rfl ?_
  refine G_bipush (v := (-105)) C 21 dX7_valuesTaken_19 rfl rfl ?_
  refine G_icmp_eq C 30 24 dX7_valuesTaken_21 rfl rfl (fun c => absurd c (by decide)) (fun _ => ?_)
  refine G_iload_n (i := 0) C 25 dX7_valuesTaken_24 rfl rfl rfl ?_
  refine G_bipush (v := (-112)) C 27 dX7_valuesTaken_25 rfl rfl ?_
  refine G_icmp_ne C 34 30 dX7_valuesTaken_27 rfl rfl (fun c => absurd c (by decide)) (fun _ => ?_)
  refine G_iconst (v := 1) C 31 dX7_valuesTaken_30 rfl rfl ?_
  refine G_goto C 35 dX7_valuesTaken_31 rfl ?_
  exact G_iret C dX7_valuesTaken_35 (⟨rfl, rfl⟩)
theorem c_X7_valuesTaken (d : Nat) (c : Nat) (ok : x_ok c) (v : Int32) (hv : v = x_cl c) (s : gS) : gMt SC yX7_valuesTaken cX7_valuesTaken 1 (some .int) (d + 1) (fun ad => [.int v]) s (gQi SC (fun r s' => s' = s ∧ r = nI (x_tk c))) := by
  subst hv
  refine x_okP (P := fun c => gMt SC yX7_valuesTaken cX7_valuesTaken 1 (some .int) (d + 1) (fun ad => [.int (x_cl c)]) s (gQi SC (fun r s' => s' = s ∧ r = nI (x_tk c)))) ok (fun h1 h2 => ?_) (c_X7_valuesTaken_0 d s) (c_X7_valuesTaken_1 d s) (c_X7_valuesTaken_2 d s) (c_X7_valuesTaken_3 d s) (c_X7_valuesTaken_4 d s) (c_X7_valuesTaken_5 d s) (c_X7_valuesTaken_11 d s) (c_X7_valuesTaken_12 d s) (c_X7_valuesTaken_13 d s) (c_X7_valuesTaken_14 d s) (c_X7_valuesTaken_15 d s) (c_X7_valuesTaken_16 d s) (c_X7_valuesTaken_17 d s) (c_X7_valuesTaken_18 d s) (c_X7_valuesTaken_19 d s)
  have e : x_tk c = 0 := if_pos h1
  rw [e]
  exact c_X7_valuesTaken_n d (c - 100000) (by omega) (x_cl c) (x_cl_num ⟨h1, h2⟩) s
theorem dX7_worth_0 : decode cX7_worth 0 = .ok (.iload_n 0, 1) := by decide +kernel
theorem dX7_worth_1 : decode cX7_worth 1 = .ok (.ifCond .lt 5, 3) := by decide +kernel
theorem dX7_worth_4 : decode cX7_worth 4 = .ok (.iload_n 0, 1) := by decide +kernel
theorem dX7_worth_5 : decode cX7_worth 5 = .ok (.ireturn, 1) := by decide +kernel
theorem dX7_worth_6 : decode cX7_worth 6 = .ok (.iload_n 0, 1) := by decide +kernel
theorem dX7_worth_7 : decode cX7_worth 7 = .ok (.bipush (-106), 2) := by decide +kernel
theorem dX7_worth_9 : decode cX7_worth 9 = .ok (.if_icmp .gt 17, 3) := by decide +kernel
theorem dX7_worth_12 : decode cX7_worth 12 = .ok (.iload_n 0, 1) := by decide +kernel
theorem dX7_worth_13 : decode cX7_worth 13 = .ok (.bipush (-111), 2) := by decide +kernel
theorem dX7_worth_15 : decode cX7_worth 15 = .ok (.if_icmp .lt 11, 3) := by decide +kernel
theorem dX7_worth_18 : decode cX7_worth 18 = .ok (.aload_n 3, 1) := by decide +kernel
theorem dX7_worth_19 : decode cX7_worth 19 = .ok (.iload_n 0, 1) := by decide +kernel
theorem dX7_worth_20 : decode cX7_worth 20 = .ok (.ineg, 1) := by decide +kernel
theorem dX7_worth_21 : decode cX7_worth 21 = .ok (.bipush 106, 2) := by decide +kernel
theorem dX7_worth_23 : decode cX7_worth 23 = .ok (.isub, 1) := by decide +kernel
theorem dX7_worth_24 : decode cX7_worth 24 = .ok (.iaload, 1) := by decide +kernel
theorem dX7_worth_25 : decode cX7_worth 25 = .ok (.ireturn, 1) := by decide +kernel
theorem dX7_worth_26 : decode cX7_worth 26 = .ok (.iload_n 0, 1) := by decide +kernel
theorem dX7_worth_27 : decode cX7_worth 27 = .ok (.ineg, 1) := by decide +kernel
theorem dX7_worth_28 : decode cX7_worth 28 = .ok (.lookupswitch 159 #[(42, 155), (43, 147), (45, 151), (60, 125), (61, 136), (103, 97), (104, 111), (105, 87), (112, 84)], 84) := by decide +kernel
theorem dX7_worth_112 : decode cX7_worth 112 = .ok (.iload_n 1, 1) := by decide +kernel
theorem dX7_worth_113 : decode cX7_worth 113 = .ok (.ineg, 1) := by decide +kernel
theorem dX7_worth_114 : decode cX7_worth 114 = .ok (.ireturn, 1) := by decide +kernel
theorem dX7_worth_115 : decode cX7_worth 115 = .ok (.iload_n 1, 1) := by decide +kernel
theorem dX7_worth_116 : decode cX7_worth 116 = .ok (.ifCond .ne 7, 3) := by decide +kernel
theorem dX7_worth_119 : decode cX7_worth 119 = .ok (.iconst 1, 1) := by decide +kernel
theorem dX7_worth_120 : decode cX7_worth 120 = .ok (.goto 4, 3) := by decide +kernel
theorem dX7_worth_123 : decode cX7_worth 123 = .ok (.iconst 0, 1) := by decide +kernel
theorem dX7_worth_124 : decode cX7_worth 124 = .ok (.ireturn, 1) := by decide +kernel
theorem dX7_worth_125 : decode cX7_worth 125 = .ok (.iload_n 1, 1) := by decide +kernel
theorem dX7_worth_126 : decode cX7_worth 126 = .ok (.ifCond .ne 7, 3) := by decide +kernel
theorem dX7_worth_129 : decode cX7_worth 129 = .ok (.iload_n 2, 1) := by decide +kernel
theorem dX7_worth_130 : decode cX7_worth 130 = .ok (.ifCond .eq 7, 3) := by decide +kernel
theorem dX7_worth_133 : decode cX7_worth 133 = .ok (.iconst 1, 1) := by decide +kernel
theorem dX7_worth_134 : decode cX7_worth 134 = .ok (.goto 4, 3) := by decide +kernel
theorem dX7_worth_137 : decode cX7_worth 137 = .ok (.iconst 0, 1) := by decide +kernel
theorem dX7_worth_138 : decode cX7_worth 138 = .ok (.ireturn, 1) := by decide +kernel
theorem dX7_worth_139 : decode cX7_worth 139 = .ok (.iload_n 1, 1) := by decide +kernel
theorem dX7_worth_140 : decode cX7_worth 140 = .ok (.ifCond .eq 11, 3) := by decide +kernel
theorem dX7_worth_143 : decode cX7_worth 143 = .ok (.iload_n 2, 1) := by decide +kernel
theorem dX7_worth_144 : decode cX7_worth 144 = .ok (.ifCond .eq 7, 3) := by decide +kernel
theorem dX7_worth_147 : decode cX7_worth 147 = .ok (.iconst 1, 1) := by decide +kernel
theorem dX7_worth_148 : decode cX7_worth 148 = .ok (.goto 4, 3) := by decide +kernel
theorem dX7_worth_151 : decode cX7_worth 151 = .ok (.iconst 0, 1) := by decide +kernel
theorem dX7_worth_152 : decode cX7_worth 152 = .ok (.ireturn, 1) := by decide +kernel
theorem dX7_worth_153 : decode cX7_worth 153 = .ok (.iload_n 1, 1) := by decide +kernel
theorem dX7_worth_154 : decode cX7_worth 154 = .ok (.iload_n 2, 1) := by decide +kernel
theorem dX7_worth_155 : decode cX7_worth 155 = .ok (.if_icmp .ge 7, 3) := by decide +kernel
theorem dX7_worth_158 : decode cX7_worth 158 = .ok (.iconst 1, 1) := by decide +kernel
theorem dX7_worth_159 : decode cX7_worth 159 = .ok (.goto 4, 3) := by decide +kernel
theorem dX7_worth_162 : decode cX7_worth 162 = .ok (.iconst 0, 1) := by decide +kernel
theorem dX7_worth_163 : decode cX7_worth 163 = .ok (.ireturn, 1) := by decide +kernel
theorem dX7_worth_164 : decode cX7_worth 164 = .ok (.iload_n 1, 1) := by decide +kernel
theorem dX7_worth_165 : decode cX7_worth 165 = .ok (.iload_n 2, 1) := by decide +kernel
theorem dX7_worth_166 : decode cX7_worth 166 = .ok (.if_icmp .ne 7, 3) := by decide +kernel
theorem dX7_worth_169 : decode cX7_worth 169 = .ok (.iconst 1, 1) := by decide +kernel
theorem dX7_worth_170 : decode cX7_worth 170 = .ok (.goto 4, 3) := by decide +kernel
theorem dX7_worth_173 : decode cX7_worth 173 = .ok (.iconst 0, 1) := by decide +kernel
theorem dX7_worth_174 : decode cX7_worth 174 = .ok (.ireturn, 1) := by decide +kernel
theorem dX7_worth_175 : decode cX7_worth 175 = .ok (.iload_n 1, 1) := by decide +kernel
theorem dX7_worth_176 : decode cX7_worth 176 = .ok (.iload_n 2, 1) := by decide +kernel
theorem dX7_worth_177 : decode cX7_worth 177 = .ok (.iadd, 1) := by decide +kernel
theorem dX7_worth_178 : decode cX7_worth 178 = .ok (.ireturn, 1) := by decide +kernel
theorem dX7_worth_179 : decode cX7_worth 179 = .ok (.iload_n 1, 1) := by decide +kernel
theorem dX7_worth_180 : decode cX7_worth 180 = .ok (.iload_n 2, 1) := by decide +kernel
theorem dX7_worth_181 : decode cX7_worth 181 = .ok (.isub, 1) := by decide +kernel
theorem dX7_worth_182 : decode cX7_worth 182 = .ok (.ireturn, 1) := by decide +kernel
theorem dX7_worth_183 : decode cX7_worth 183 = .ok (.iload_n 1, 1) := by decide +kernel
theorem dX7_worth_184 : decode cX7_worth 184 = .ok (.iload_n 2, 1) := by decide +kernel
theorem dX7_worth_185 : decode cX7_worth 185 = .ok (.imul, 1) := by decide +kernel
theorem dX7_worth_186 : decode cX7_worth 186 = .ok (.ireturn, 1) := by decide +kernel
theorem dX7_worth_187 : decode cX7_worth 187 = .ok (.iconst 0, 1) := by decide +kernel
theorem dX7_worth_188 : decode cX7_worth 188 = .ok (.ireturn, 1) := by decide +kernel
set_option maxHeartbeats 4000000 in
set_option maxRecDepth 100000 in
theorem c_X7_worth_n (d w : Nat) (hw : isW w) (m : Nat) (hm : m < 10000) (v a b : Int32) (hv : v = nI m) (s : gS) : gMt SC yX7_worth cX7_worth 4 (some .int) (d + 1) (fun ad => [.int v, .int a, .int b, .ref (ad (w + 8))]) s (gQi SC (fun r s' => s' = s ∧ r = nI m)) := by
  refine gMt_of SC_ok (by decide +kernel) (fun ad => [some (.int v), some (.int a), some (.int b), some (.ref (ad (w + 8)))]) (fun _ => rfl) (fun _ => rfl) (fun _ => Nat.le_of_ble_eq_true rfl) (fun E C0 => ?_)
  have C : gCx SC E RX7 cX7_worth 4 (some .int) (d + 1) := C0
  refine G_iload_n (i := 0) C 1 dX7_worth_0 rfl rfl rfl ?_
  refine G_if_lt C 6 4 dX7_worth_1 rfl rfl (fun c1 => ?_) (fun c1 => ?_)
  ·
    have n1 : m < 0 := (g_ltN (a := m) (b := 0) (hx := hv) (hy := rfl) (by omega) (by omega)).mp c1
    exfalso; omega
  ·
    have n1 : ¬ m < 0 := fun h => c1 ((g_ltN (a := m) (b := 0) (hx := hv) (hy := rfl) (by omega) (by omega)).mpr h)
    refine G_iload_n (i := 0) C 5 dX7_worth_4 rfl rfl rfl ?_
    exact G_iret C dX7_worth_5 (⟨rfl, hv⟩)
set_option maxHeartbeats 4000000 in
set_option maxRecDepth 100000 in
theorem c_X7_worth_0 (d w : Nat) (hw : isW w) (a b : Int32) (s : gS) : gMt SC yX7_worth cX7_worth 4 (some .int) (d + 1) (fun ad => [.int (-106), .int a, .int b, .ref (ad (w + 8))]) s (gQi SC (fun r s' => s' = s ∧ r = x_wo (s (w + 8)) 0 a b)) := by
  refine gMt_of SC_ok (by decide +kernel) (fun ad => [some (.int (-106)), some (.int a), some (.int b), some (.ref (ad (w + 8)))]) (fun _ => rfl) (fun _ => rfl) (fun _ => Nat.le_of_ble_eq_true rfl) (fun E C0 => ?_)
  have C : gCx SC E RX7 cX7_worth 4 (some .int) (d + 1) := C0
  refine G_iload_n (i := 0) C 1 dX7_worth_0 rfl rfl rfl ?_
  refine G_if_lt C 6 4 dX7_worth_1 rfl rfl (fun _ => ?_) (fun c => absurd c (by decide))
  refine G_iload_n (i := 0) C 7 dX7_worth_6 rfl rfl rfl ?_
  refine G_bipush (v := (-106)) C 9 dX7_worth_7 rfl rfl ?_
  refine G_icmp_gt C 26 12 dX7_worth_9 rfl rfl (fun c => absurd c (by decide)) (fun _ => ?_)
  refine G_iload_n (i := 0) C 13 dX7_worth_12 rfl rfl rfl ?_
  refine G_bipush (v := (-111)) C 15 dX7_worth_13 rfl rfl ?_
  refine G_icmp_lt C 26 18 dX7_worth_15 rfl rfl (fun c => absurd c (by decide)) (fun _ => ?_)
  refine G_aload_n (i := 3) C 19 dX7_worth_18 rfl rfl rfl ?_
  refine G_iload_n (i := 0) C 20 dX7_worth_19 rfl rfl rfl ?_
  refine G_ineg C 21 dX7_worth_20 rfl (fun x20 ex20 => ?_)
  obtain rfl : x20 = 106 := ex20.trans (by decide)
  refine G_bipush (v := 106) C 23 dX7_worth_21 rfl rfl ?_
  refine G_isub C 24 dX7_worth_23 rfl (fun x23 ex23 => ?_)
  obtain rfl : x23 = 0 := ex23.trans (by decide)
  refine G_iald (n := 6) C 25 (lW hw (by decide)) (eW8 _ _ _ hw) (0) rfl (by omega) (by decide) dX7_worth_24 rfl (fun x24 ex24 => ?_)
  exact G_iret C dX7_worth_25 (⟨rfl, by first | exact ex24 | (simp only [x_wo, x_op2]; simp_all; done) | (simp [x_wo, x_op2, *]; done)⟩)
set_option maxHeartbeats 4000000 in
set_option maxRecDepth 100000 in
theorem c_X7_worth_1 (d w : Nat) (hw : isW w) (a b : Int32) (s : gS) : gMt SC yX7_worth cX7_worth 4 (some .int) (d + 1) (fun ad => [.int (-107), .int a, .int b, .ref (ad (w + 8))]) s (gQi SC (fun r s' => s' = s ∧ r = x_wo (s (w + 8)) 1 a b)) := by
  refine gMt_of SC_ok (by decide +kernel) (fun ad => [some (.int (-107)), some (.int a), some (.int b), some (.ref (ad (w + 8)))]) (fun _ => rfl) (fun _ => rfl) (fun _ => Nat.le_of_ble_eq_true rfl) (fun E C0 => ?_)
  have C : gCx SC E RX7 cX7_worth 4 (some .int) (d + 1) := C0
  refine G_iload_n (i := 0) C 1 dX7_worth_0 rfl rfl rfl ?_
  refine G_if_lt C 6 4 dX7_worth_1 rfl rfl (fun _ => ?_) (fun c => absurd c (by decide))
  refine G_iload_n (i := 0) C 7 dX7_worth_6 rfl rfl rfl ?_
  refine G_bipush (v := (-106)) C 9 dX7_worth_7 rfl rfl ?_
  refine G_icmp_gt C 26 12 dX7_worth_9 rfl rfl (fun c => absurd c (by decide)) (fun _ => ?_)
  refine G_iload_n (i := 0) C 13 dX7_worth_12 rfl rfl rfl ?_
  refine G_bipush (v := (-111)) C 15 dX7_worth_13 rfl rfl ?_
  refine G_icmp_lt C 26 18 dX7_worth_15 rfl rfl (fun c => absurd c (by decide)) (fun _ => ?_)
  refine G_aload_n (i := 3) C 19 dX7_worth_18 rfl rfl rfl ?_
  refine G_iload_n (i := 0) C 20 dX7_worth_19 rfl rfl rfl ?_
  refine G_ineg C 21 dX7_worth_20 rfl (fun x20 ex20 => ?_)
  obtain rfl : x20 = 107 := ex20.trans (by decide)
  refine G_bipush (v := 106) C 23 dX7_worth_21 rfl rfl ?_
  refine G_isub C 24 dX7_worth_23 rfl (fun x23 ex23 => ?_)
  obtain rfl : x23 = 1 := ex23.trans (by decide)
  refine G_iald (n := 6) C 25 (lW hw (by decide)) (eW8 _ _ _ hw) (1) rfl (by omega) (by decide) dX7_worth_24 rfl (fun x24 ex24 => ?_)
  exact G_iret C dX7_worth_25 (⟨rfl, by first | exact ex24 | (simp only [x_wo, x_op2]; simp_all; done) | (simp [x_wo, x_op2, *]; done)⟩)
set_option maxHeartbeats 4000000 in
set_option maxRecDepth 100000 in
theorem c_X7_worth_2 (d w : Nat) (hw : isW w) (a b : Int32) (s : gS) : gMt SC yX7_worth cX7_worth 4 (some .int) (d + 1) (fun ad => [.int (-108), .int a, .int b, .ref (ad (w + 8))]) s (gQi SC (fun r s' => s' = s ∧ r = x_wo (s (w + 8)) 2 a b)) := by
  refine gMt_of SC_ok (by decide +kernel) (fun ad => [some (.int (-108)), some (.int a), some (.int b), some (.ref (ad (w + 8)))]) (fun _ => rfl) (fun _ => rfl) (fun _ => Nat.le_of_ble_eq_true rfl) (fun E C0 => ?_)
  have C : gCx SC E RX7 cX7_worth 4 (some .int) (d + 1) := C0
  refine G_iload_n (i := 0) C 1 dX7_worth_0 rfl rfl rfl ?_
  refine G_if_lt C 6 4 dX7_worth_1 rfl rfl (fun _ => ?_) (fun c => absurd c (by decide))
  refine G_iload_n (i := 0) C 7 dX7_worth_6 rfl rfl rfl ?_
  refine G_bipush (v := (-106)) C 9 dX7_worth_7 rfl rfl ?_
  refine G_icmp_gt C 26 12 dX7_worth_9 rfl rfl (fun c => absurd c (by decide)) (fun _ => ?_)
  refine G_iload_n (i := 0) C 13 dX7_worth_12 rfl rfl rfl ?_
  refine G_bipush (v := (-111)) C 15 dX7_worth_13 rfl rfl ?_
  refine G_icmp_lt C 26 18 dX7_worth_15 rfl rfl (fun c => absurd c (by decide)) (fun _ => ?_)
  refine G_aload_n (i := 3) C 19 dX7_worth_18 rfl rfl rfl ?_
  refine G_iload_n (i := 0) C 20 dX7_worth_19 rfl rfl rfl ?_
  refine G_ineg C 21 dX7_worth_20 rfl (fun x20 ex20 => ?_)
  obtain rfl : x20 = 108 := ex20.trans (by decide)
  refine G_bipush (v := 106) C 23 dX7_worth_21 rfl rfl ?_
  refine G_isub C 24 dX7_worth_23 rfl (fun x23 ex23 => ?_)
  obtain rfl : x23 = 2 := ex23.trans (by decide)
  refine G_iald (n := 6) C 25 (lW hw (by decide)) (eW8 _ _ _ hw) (2) rfl (by omega) (by decide) dX7_worth_24 rfl (fun x24 ex24 => ?_)
  exact G_iret C dX7_worth_25 (⟨rfl, by first | exact ex24 | (simp only [x_wo, x_op2]; simp_all; done) | (simp [x_wo, x_op2, *]; done)⟩)
set_option maxHeartbeats 4000000 in
set_option maxRecDepth 100000 in
theorem c_X7_worth_3 (d w : Nat) (hw : isW w) (a b : Int32) (s : gS) : gMt SC yX7_worth cX7_worth 4 (some .int) (d + 1) (fun ad => [.int (-109), .int a, .int b, .ref (ad (w + 8))]) s (gQi SC (fun r s' => s' = s ∧ r = x_wo (s (w + 8)) 3 a b)) := by
  refine gMt_of SC_ok (by decide +kernel) (fun ad => [some (.int (-109)), some (.int a), some (.int b), some (.ref (ad (w + 8)))]) (fun _ => rfl) (fun _ => rfl) (fun _ => Nat.le_of_ble_eq_true rfl) (fun E C0 => ?_)
  have C : gCx SC E RX7 cX7_worth 4 (some .int) (d + 1) := C0
  refine G_iload_n (i := 0) C 1 dX7_worth_0 rfl rfl rfl ?_
  refine G_if_lt C 6 4 dX7_worth_1 rfl rfl (fun _ => ?_) (fun c => absurd c (by decide))
  refine G_iload_n (i := 0) C 7 dX7_worth_6 rfl rfl rfl ?_
  refine G_bipush (v := (-106)) C 9 dX7_worth_7 rfl rfl ?_
  refine G_icmp_gt C 26 12 dX7_worth_9 rfl rfl (fun c => absurd c (by decide)) (fun _ => ?_)
  refine G_iload_n (i := 0) C 13 dX7_worth_12 rfl rfl rfl ?_
  refine G_bipush (v := (-111)) C 15 dX7_worth_13 rfl rfl ?_
  refine G_icmp_lt C 26 18 dX7_worth_15 rfl rfl (fun c => absurd c (by decide)) (fun _ => ?_)
  refine G_aload_n (i := 3) C 19 dX7_worth_18 rfl rfl rfl ?_
  refine G_iload_n (i := 0) C 20 dX7_worth_19 rfl rfl rfl ?_
  refine G_ineg C 21 dX7_worth_20 rfl (fun x20 ex20 => ?_)
  obtain rfl : x20 = 109 := ex20.trans (by decide)
  refine G_bipush (v := 106) C 23 dX7_worth_21 rfl rfl ?_
  refine G_isub C 24 dX7_worth_23 rfl (fun x23 ex23 => ?_)
  obtain rfl : x23 = 3 := ex23.trans (by decide)
  refine G_iald (n := 6) C 25 (lW hw (by decide)) (eW8 _ _ _ hw) (3) rfl (by omega) (by decide) dX7_worth_24 rfl (fun x24 ex24 => ?_)
  exact G_iret C dX7_worth_25 (⟨rfl, by first | exact ex24 | (simp only [x_wo, x_op2]; simp_all; done) | (simp [x_wo, x_op2, *]; done)⟩)
set_option maxHeartbeats 4000000 in
set_option maxRecDepth 100000 in
theorem c_X7_worth_4 (d w : Nat) (hw : isW w) (a b : Int32) (s : gS) : gMt SC yX7_worth cX7_worth 4 (some .int) (d + 1) (fun ad => [.int (-110), .int a, .int b, .ref (ad (w + 8))]) s (gQi SC (fun r s' => s' = s ∧ r = x_wo (s (w + 8)) 4 a b)) := by
  refine gMt_of SC_ok (by decide +kernel) (fun ad => [some (.int (-110)), some (.int a), some (.int b), some (.ref (ad (w + 8)))]) (fun _ => rfl) (fun _ => rfl) (fun _ => Nat.le_of_ble_eq_true rfl) (fun E C0 => ?_)
  have C : gCx SC E RX7 cX7_worth 4 (some .int) (d + 1) := C0
  refine G_iload_n (i := 0) C 1 dX7_worth_0 rfl rfl rfl ?_
  refine G_if_lt C 6 4 dX7_worth_1 rfl rfl (fun _ => ?_) (fun c => absurd c (by decide))
  refine G_iload_n (i := 0) C 7 dX7_worth_6 rfl rfl rfl ?_
  refine G_bipush (v := (-106)) C 9 dX7_worth_7 rfl rfl ?_
  refine G_icmp_gt C 26 12 dX7_worth_9 rfl rfl (fun c => absurd c (by decide)) (fun _ => ?_)
  refine G_iload_n (i := 0) C 13 dX7_worth_12 rfl rfl rfl ?_
  refine G_bipush (v := (-111)) C 15 dX7_worth_13 rfl rfl ?_
  refine G_icmp_lt C 26 18 dX7_worth_15 rfl rfl (fun c => absurd c (by decide)) (fun _ => ?_)
  refine G_aload_n (i := 3) C 19 dX7_worth_18 rfl rfl rfl ?_
  refine G_iload_n (i := 0) C 20 dX7_worth_19 rfl rfl rfl ?_
  refine G_ineg C 21 dX7_worth_20 rfl (fun x20 ex20 => ?_)
  obtain rfl : x20 = 110 := ex20.trans (by decide)
  refine G_bipush (v := 106) C 23 dX7_worth_21 rfl rfl ?_
  refine G_isub C 24 dX7_worth_23 rfl (fun x23 ex23 => ?_)
  obtain rfl : x23 = 4 := ex23.trans (by decide)
  refine G_iald (n := 6) C 25 (lW hw (by decide)) (eW8 _ _ _ hw) (4) rfl (by omega) (by decide) dX7_worth_24 rfl (fun x24 ex24 => ?_)
  exact G_iret C dX7_worth_25 (⟨rfl, by first | exact ex24 | (simp only [x_wo, x_op2]; simp_all; done) | (simp [x_wo, x_op2, *]; done)⟩)
set_option maxHeartbeats 4000000 in
set_option maxRecDepth 100000 in
theorem c_X7_worth_5 (d w : Nat) (hw : isW w) (a b : Int32) (s : gS) : gMt SC yX7_worth cX7_worth 4 (some .int) (d + 1) (fun ad => [.int (-111), .int a, .int b, .ref (ad (w + 8))]) s (gQi SC (fun r s' => s' = s ∧ r = x_wo (s (w + 8)) 5 a b)) := by
  refine gMt_of SC_ok (by decide +kernel) (fun ad => [some (.int (-111)), some (.int a), some (.int b), some (.ref (ad (w + 8)))]) (fun _ => rfl) (fun _ => rfl) (fun _ => Nat.le_of_ble_eq_true rfl) (fun E C0 => ?_)
  have C : gCx SC E RX7 cX7_worth 4 (some .int) (d + 1) := C0
  refine G_iload_n (i := 0) C 1 dX7_worth_0 rfl rfl rfl ?_
  refine G_if_lt C 6 4 dX7_worth_1 rfl rfl (fun _ => ?_) (fun c => absurd c (by decide))
  refine G_iload_n (i := 0) C 7 dX7_worth_6 rfl rfl rfl ?_
  refine G_bipush (v := (-106)) C 9 dX7_worth_7 rfl rfl ?_
  refine G_icmp_gt C 26 12 dX7_worth_9 rfl rfl (fun c => absurd c (by decide)) (fun _ => ?_)
  refine G_iload_n (i := 0) C 13 dX7_worth_12 rfl rfl rfl ?_
  refine G_bipush (v := (-111)) C 15 dX7_worth_13 rfl rfl ?_
  refine G_icmp_lt C 26 18 dX7_worth_15 rfl rfl (fun c => absurd c (by decide)) (fun _ => ?_)
  refine G_aload_n (i := 3) C 19 dX7_worth_18 rfl rfl rfl ?_
  refine G_iload_n (i := 0) C 20 dX7_worth_19 rfl rfl rfl ?_
  refine G_ineg C 21 dX7_worth_20 rfl (fun x20 ex20 => ?_)
  obtain rfl : x20 = 111 := ex20.trans (by decide)
  refine G_bipush (v := 106) C 23 dX7_worth_21 rfl rfl ?_
  refine G_isub C 24 dX7_worth_23 rfl (fun x23 ex23 => ?_)
  obtain rfl : x23 = 5 := ex23.trans (by decide)
  refine G_iald (n := 6) C 25 (lW hw (by decide)) (eW8 _ _ _ hw) (5) rfl (by omega) (by decide) dX7_worth_24 rfl (fun x24 ex24 => ?_)
  exact G_iret C dX7_worth_25 (⟨rfl, by first | exact ex24 | (simp only [x_wo, x_op2]; simp_all; done) | (simp [x_wo, x_op2, *]; done)⟩)
set_option maxHeartbeats 4000000 in
set_option maxRecDepth 100000 in
theorem c_X7_worth_11 (d w : Nat) (hw : isW w) (a b : Int32) (s : gS) : gMt SC yX7_worth cX7_worth 4 (some .int) (d + 1) (fun ad => [.int (-103), .int a, .int b, .ref (ad (w + 8))]) s (gQi SC (fun r s' => s' = s ∧ r = x_wo (s (w + 8)) 11 a b)) := by
  refine gMt_of SC_ok (by decide +kernel) (fun ad => [some (.int (-103)), some (.int a), some (.int b), some (.ref (ad (w + 8)))]) (fun _ => rfl) (fun _ => rfl) (fun _ => Nat.le_of_ble_eq_true rfl) (fun E C0 => ?_)
  have C : gCx SC E RX7 cX7_worth 4 (some .int) (d + 1) := C0
  refine G_iload_n (i := 0) C 1 dX7_worth_0 rfl rfl rfl ?_
  refine G_if_lt C 6 4 dX7_worth_1 rfl rfl (fun _ => ?_) (fun c => absurd c (by decide))
  refine G_iload_n (i := 0) C 7 dX7_worth_6 rfl rfl rfl ?_
  refine G_bipush (v := (-106)) C 9 dX7_worth_7 rfl rfl ?_
  refine G_icmp_gt C 26 12 dX7_worth_9 rfl rfl (fun _ => ?_) (fun c => absurd c (by decide))
  refine G_iload_n (i := 0) C 27 dX7_worth_26 rfl rfl rfl ?_
  refine G_ineg C 28 dX7_worth_27 rfl (fun x27 ex27 => ?_)
  obtain rfl : x27 = 103 := ex27.trans (by decide)
  refine G_ls (off := 97) C 125 dX7_worth_28 (by decide) (by decide) rfl ?_
  refine G_iload_n (i := 1) C 126 dX7_worth_125 rfl rfl rfl ?_
  refine G_if_ne C 133 129 dX7_worth_126 rfl rfl (fun c126 => ?_) (fun c126 => ?_)
  ·
    refine G_iconst (v := 1) C 134 dX7_worth_133 rfl rfl ?_
    refine G_goto C 138 dX7_worth_134 rfl ?_
    exact G_iret C dX7_worth_138 (⟨rfl, by subst_vars; simp [x_wo, x_op2, *]⟩)
  ·
    refine G_iload_n (i := 2) C 130 dX7_worth_129 rfl rfl rfl ?_
    refine G_if_eq C 137 133 dX7_worth_130 rfl rfl (fun c130 => ?_) (fun c130 => ?_)
    ·
      refine G_iconst (v := 0) C 138 dX7_worth_137 rfl rfl ?_
      exact G_iret C dX7_worth_138 (⟨rfl, by subst_vars; simp [x_wo, x_op2, *]⟩)
    ·
      refine G_iconst (v := 1) C 134 dX7_worth_133 rfl rfl ?_
      refine G_goto C 138 dX7_worth_134 rfl ?_
      exact G_iret C dX7_worth_138 (⟨rfl, by subst_vars; simp [x_wo, x_op2, *]⟩)
set_option maxHeartbeats 4000000 in
set_option maxRecDepth 100000 in
theorem c_X7_worth_12 (d w : Nat) (hw : isW w) (a b : Int32) (s : gS) : gMt SC yX7_worth cX7_worth 4 (some .int) (d + 1) (fun ad => [.int (-104), .int a, .int b, .ref (ad (w + 8))]) s (gQi SC (fun r s' => s' = s ∧ r = x_wo (s (w + 8)) 12 a b)) := by
  refine gMt_of SC_ok (by decide +kernel) (fun ad => [some (.int (-104)), some (.int a), some (.int b), some (.ref (ad (w + 8)))]) (fun _ => rfl) (fun _ => rfl) (fun _ => Nat.le_of_ble_eq_true rfl) (fun E C0 => ?_)
  have C : gCx SC E RX7 cX7_worth 4 (some .int) (d + 1) := C0
  refine G_iload_n (i := 0) C 1 dX7_worth_0 rfl rfl rfl ?_
  refine G_if_lt C 6 4 dX7_worth_1 rfl rfl (fun _ => ?_) (fun c => absurd c (by decide))
  refine G_iload_n (i := 0) C 7 dX7_worth_6 rfl rfl rfl ?_
  refine G_bipush (v := (-106)) C 9 dX7_worth_7 rfl rfl ?_
  refine G_icmp_gt C 26 12 dX7_worth_9 rfl rfl (fun _ => ?_) (fun c => absurd c (by decide))
  refine G_iload_n (i := 0) C 27 dX7_worth_26 rfl rfl rfl ?_
  refine G_ineg C 28 dX7_worth_27 rfl (fun x27 ex27 => ?_)
  obtain rfl : x27 = 104 := ex27.trans (by decide)
  refine G_ls (off := 111) C 139 dX7_worth_28 (by decide) (by decide) rfl ?_
  refine G_iload_n (i := 1) C 140 dX7_worth_139 rfl rfl rfl ?_
  refine G_if_eq C 151 143 dX7_worth_140 rfl rfl (fun c140 => ?_) (fun c140 => ?_)
  ·
    refine G_iconst (v := 0) C 152 dX7_worth_151 rfl rfl ?_
    exact G_iret C dX7_worth_152 (⟨rfl, by subst_vars; simp [x_wo, x_op2, *]⟩)
  ·
    refine G_iload_n (i := 2) C 144 dX7_worth_143 rfl rfl rfl ?_
    refine G_if_eq C 151 147 dX7_worth_144 rfl rfl (fun c144 => ?_) (fun c144 => ?_)
    ·
      refine G_iconst (v := 0) C 152 dX7_worth_151 rfl rfl ?_
      exact G_iret C dX7_worth_152 (⟨rfl, by subst_vars; simp [x_wo, x_op2, *]⟩)
    ·
      refine G_iconst (v := 1) C 148 dX7_worth_147 rfl rfl ?_
      refine G_goto C 152 dX7_worth_148 rfl ?_
      exact G_iret C dX7_worth_152 (⟨rfl, by subst_vars; simp [x_wo, x_op2, *]⟩)
set_option maxHeartbeats 4000000 in
set_option maxRecDepth 100000 in
theorem c_X7_worth_13 (d w : Nat) (hw : isW w) (a b : Int32) (s : gS) : gMt SC yX7_worth cX7_worth 4 (some .int) (d + 1) (fun ad => [.int (-105), .int a, .int b, .ref (ad (w + 8))]) s (gQi SC (fun r s' => s' = s ∧ r = x_wo (s (w + 8)) 13 a b)) := by
  refine gMt_of SC_ok (by decide +kernel) (fun ad => [some (.int (-105)), some (.int a), some (.int b), some (.ref (ad (w + 8)))]) (fun _ => rfl) (fun _ => rfl) (fun _ => Nat.le_of_ble_eq_true rfl) (fun E C0 => ?_)
  have C : gCx SC E RX7 cX7_worth 4 (some .int) (d + 1) := C0
  refine G_iload_n (i := 0) C 1 dX7_worth_0 rfl rfl rfl ?_
  refine G_if_lt C 6 4 dX7_worth_1 rfl rfl (fun _ => ?_) (fun c => absurd c (by decide))
  refine G_iload_n (i := 0) C 7 dX7_worth_6 rfl rfl rfl ?_
  refine G_bipush (v := (-106)) C 9 dX7_worth_7 rfl rfl ?_
  refine G_icmp_gt C 26 12 dX7_worth_9 rfl rfl (fun _ => ?_) (fun c => absurd c (by decide))
  refine G_iload_n (i := 0) C 27 dX7_worth_26 rfl rfl rfl ?_
  refine G_ineg C 28 dX7_worth_27 rfl (fun x27 ex27 => ?_)
  obtain rfl : x27 = 105 := ex27.trans (by decide)
  refine G_ls (off := 87) C 115 dX7_worth_28 (by decide) (by decide) rfl ?_
  refine G_iload_n (i := 1) C 116 dX7_worth_115 rfl rfl rfl ?_
  refine G_if_ne C 123 119 dX7_worth_116 rfl rfl (fun c116 => ?_) (fun c116 => ?_)
  ·
    refine G_iconst (v := 0) C 124 dX7_worth_123 rfl rfl ?_
    exact G_iret C dX7_worth_124 (⟨rfl, by subst_vars; simp [x_wo, x_op2, *]⟩)
  ·
    refine G_iconst (v := 1) C 120 dX7_worth_119 rfl rfl ?_
    refine G_goto C 124 dX7_worth_120 rfl ?_
    exact G_iret C dX7_worth_124 (⟨rfl, by subst_vars; simp [x_wo, x_op2, *]⟩)
set_option maxHeartbeats 4000000 in
set_option maxRecDepth 100000 in
theorem c_X7_worth_14 (d w : Nat) (hw : isW w) (a b : Int32) (s : gS) : gMt SC yX7_worth cX7_worth 4 (some .int) (d + 1) (fun ad => [.int (-60), .int a, .int b, .ref (ad (w + 8))]) s (gQi SC (fun r s' => s' = s ∧ r = x_wo (s (w + 8)) 14 a b)) := by
  refine gMt_of SC_ok (by decide +kernel) (fun ad => [some (.int (-60)), some (.int a), some (.int b), some (.ref (ad (w + 8)))]) (fun _ => rfl) (fun _ => rfl) (fun _ => Nat.le_of_ble_eq_true rfl) (fun E C0 => ?_)
  have C : gCx SC E RX7 cX7_worth 4 (some .int) (d + 1) := C0
  refine G_iload_n (i := 0) C 1 dX7_worth_0 rfl rfl rfl ?_
  refine G_if_lt C 6 4 dX7_worth_1 rfl rfl (fun _ => ?_) (fun c => absurd c (by decide))
  refine G_iload_n (i := 0) C 7 dX7_worth_6 rfl rfl rfl ?_
  refine G_bipush (v := (-106)) C 9 dX7_worth_7 rfl rfl ?_
  refine G_icmp_gt C 26 12 dX7_worth_9 rfl rfl (fun _ => ?_) (fun c => absurd c (by decide))
  refine G_iload_n (i := 0) C 27 dX7_worth_26 rfl rfl rfl ?_
  refine G_ineg C 28 dX7_worth_27 rfl (fun x27 ex27 => ?_)
  obtain rfl : x27 = 60 := ex27.trans (by decide)
  refine G_ls (off := 125) C 153 dX7_worth_28 (by decide) (by decide) rfl ?_
  refine G_iload_n (i := 1) C 154 dX7_worth_153 rfl rfl rfl ?_
  refine G_iload_n (i := 2) C 155 dX7_worth_154 rfl rfl rfl ?_
  refine G_icmp_ge C 162 158 dX7_worth_155 rfl rfl (fun c155 => ?_) (fun c155 => ?_)
  ·
    refine G_iconst (v := 0) C 163 dX7_worth_162 rfl rfl ?_
    exact G_iret C dX7_worth_163 (⟨rfl, by subst_vars; simp [x_wo, x_op2, *]⟩)
  ·
    refine G_iconst (v := 1) C 159 dX7_worth_158 rfl rfl ?_
    refine G_goto C 163 dX7_worth_159 rfl ?_
    exact G_iret C dX7_worth_163 (⟨rfl, by subst_vars; simp [x_wo, x_op2, *]⟩)
set_option maxHeartbeats 4000000 in
set_option maxRecDepth 100000 in
theorem c_X7_worth_15 (d w : Nat) (hw : isW w) (a b : Int32) (s : gS) : gMt SC yX7_worth cX7_worth 4 (some .int) (d + 1) (fun ad => [.int (-61), .int a, .int b, .ref (ad (w + 8))]) s (gQi SC (fun r s' => s' = s ∧ r = x_wo (s (w + 8)) 15 a b)) := by
  refine gMt_of SC_ok (by decide +kernel) (fun ad => [some (.int (-61)), some (.int a), some (.int b), some (.ref (ad (w + 8)))]) (fun _ => rfl) (fun _ => rfl) (fun _ => Nat.le_of_ble_eq_true rfl) (fun E C0 => ?_)
  have C : gCx SC E RX7 cX7_worth 4 (some .int) (d + 1) := C0
  refine G_iload_n (i := 0) C 1 dX7_worth_0 rfl rfl rfl ?_
  refine G_if_lt C 6 4 dX7_worth_1 rfl rfl (fun _ => ?_) (fun c => absurd c (by decide))
  refine G_iload_n (i := 0) C 7 dX7_worth_6 rfl rfl rfl ?_
  refine G_bipush (v := (-106)) C 9 dX7_worth_7 rfl rfl ?_
  refine G_icmp_gt C 26 12 dX7_worth_9 rfl rfl (fun _ => ?_) (fun c => absurd c (by decide))
  refine G_iload_n (i := 0) C 27 dX7_worth_26 rfl rfl rfl ?_
  refine G_ineg C 28 dX7_worth_27 rfl (fun x27 ex27 => ?_)
  obtain rfl : x27 = 61 := ex27.trans (by decide)
  refine G_ls (off := 136) C 164 dX7_worth_28 (by decide) (by decide) rfl ?_
  refine G_iload_n (i := 1) C 165 dX7_worth_164 rfl rfl rfl ?_
  refine G_iload_n (i := 2) C 166 dX7_worth_165 rfl rfl rfl ?_
  refine G_icmp_ne C 173 169 dX7_worth_166 rfl rfl (fun c166 => ?_) (fun c166 => ?_)
  ·
    refine G_iconst (v := 0) C 174 dX7_worth_173 rfl rfl ?_
    exact G_iret C dX7_worth_174 (⟨rfl, by subst_vars; simp [x_wo, x_op2, *]⟩)
  ·
    refine G_iconst (v := 1) C 170 dX7_worth_169 rfl rfl ?_
    refine G_goto C 174 dX7_worth_170 rfl ?_
    exact G_iret C dX7_worth_174 (⟨rfl, by subst_vars; simp [x_wo, x_op2, *]⟩)
set_option maxHeartbeats 4000000 in
set_option maxRecDepth 100000 in
theorem c_X7_worth_16 (d w : Nat) (hw : isW w) (a b : Int32) (s : gS) : gMt SC yX7_worth cX7_worth 4 (some .int) (d + 1) (fun ad => [.int (-43), .int a, .int b, .ref (ad (w + 8))]) s (gQi SC (fun r s' => s' = s ∧ r = x_wo (s (w + 8)) 16 a b)) := by
  refine gMt_of SC_ok (by decide +kernel) (fun ad => [some (.int (-43)), some (.int a), some (.int b), some (.ref (ad (w + 8)))]) (fun _ => rfl) (fun _ => rfl) (fun _ => Nat.le_of_ble_eq_true rfl) (fun E C0 => ?_)
  have C : gCx SC E RX7 cX7_worth 4 (some .int) (d + 1) := C0
  refine G_iload_n (i := 0) C 1 dX7_worth_0 rfl rfl rfl ?_
  refine G_if_lt C 6 4 dX7_worth_1 rfl rfl (fun _ => ?_) (fun c => absurd c (by decide))
  refine G_iload_n (i := 0) C 7 dX7_worth_6 rfl rfl rfl ?_
  refine G_bipush (v := (-106)) C 9 dX7_worth_7 rfl rfl ?_
  refine G_icmp_gt C 26 12 dX7_worth_9 rfl rfl (fun _ => ?_) (fun c => absurd c (by decide))
  refine G_iload_n (i := 0) C 27 dX7_worth_26 rfl rfl rfl ?_
  refine G_ineg C 28 dX7_worth_27 rfl (fun x27 ex27 => ?_)
  obtain rfl : x27 = 43 := ex27.trans (by decide)
  refine G_ls (off := 147) C 175 dX7_worth_28 (by decide) (by decide) rfl ?_
  refine G_iload_n (i := 1) C 176 dX7_worth_175 rfl rfl rfl ?_
  refine G_iload_n (i := 2) C 177 dX7_worth_176 rfl rfl rfl ?_
  refine G_iadd C 178 dX7_worth_177 rfl (fun x177 ex177 => ?_)
  exact G_iret C dX7_worth_178 (⟨rfl, by subst_vars; simp [x_wo, x_op2, *]⟩)
set_option maxHeartbeats 4000000 in
set_option maxRecDepth 100000 in
theorem c_X7_worth_17 (d w : Nat) (hw : isW w) (a b : Int32) (s : gS) : gMt SC yX7_worth cX7_worth 4 (some .int) (d + 1) (fun ad => [.int (-45), .int a, .int b, .ref (ad (w + 8))]) s (gQi SC (fun r s' => s' = s ∧ r = x_wo (s (w + 8)) 17 a b)) := by
  refine gMt_of SC_ok (by decide +kernel) (fun ad => [some (.int (-45)), some (.int a), some (.int b), some (.ref (ad (w + 8)))]) (fun _ => rfl) (fun _ => rfl) (fun _ => Nat.le_of_ble_eq_true rfl) (fun E C0 => ?_)
  have C : gCx SC E RX7 cX7_worth 4 (some .int) (d + 1) := C0
  refine G_iload_n (i := 0) C 1 dX7_worth_0 rfl rfl rfl ?_
  refine G_if_lt C 6 4 dX7_worth_1 rfl rfl (fun _ => ?_) (fun c => absurd c (by decide))
  refine G_iload_n (i := 0) C 7 dX7_worth_6 rfl rfl rfl ?_
  refine G_bipush (v := (-106)) C 9 dX7_worth_7 rfl rfl ?_
  refine G_icmp_gt C 26 12 dX7_worth_9 rfl rfl (fun _ => ?_) (fun c => absurd c (by decide))
  refine G_iload_n (i := 0) C 27 dX7_worth_26 rfl rfl rfl ?_
  refine G_ineg C 28 dX7_worth_27 rfl (fun x27 ex27 => ?_)
  obtain rfl : x27 = 45 := ex27.trans (by decide)
  refine G_ls (off := 151) C 179 dX7_worth_28 (by decide) (by decide) rfl ?_
  refine G_iload_n (i := 1) C 180 dX7_worth_179 rfl rfl rfl ?_
  refine G_iload_n (i := 2) C 181 dX7_worth_180 rfl rfl rfl ?_
  refine G_isub C 182 dX7_worth_181 rfl (fun x181 ex181 => ?_)
  exact G_iret C dX7_worth_182 (⟨rfl, by subst_vars; simp [x_wo, x_op2, *]⟩)
set_option maxHeartbeats 4000000 in
set_option maxRecDepth 100000 in
theorem c_X7_worth_18 (d w : Nat) (hw : isW w) (a b : Int32) (s : gS) : gMt SC yX7_worth cX7_worth 4 (some .int) (d + 1) (fun ad => [.int (-42), .int a, .int b, .ref (ad (w + 8))]) s (gQi SC (fun r s' => s' = s ∧ r = x_wo (s (w + 8)) 18 a b)) := by
  refine gMt_of SC_ok (by decide +kernel) (fun ad => [some (.int (-42)), some (.int a), some (.int b), some (.ref (ad (w + 8)))]) (fun _ => rfl) (fun _ => rfl) (fun _ => Nat.le_of_ble_eq_true rfl) (fun E C0 => ?_)
  have C : gCx SC E RX7 cX7_worth 4 (some .int) (d + 1) := C0
  refine G_iload_n (i := 0) C 1 dX7_worth_0 rfl rfl rfl ?_
  refine G_if_lt C 6 4 dX7_worth_1 rfl rfl (fun _ => ?_) (fun c => absurd c (by decide))
  refine G_iload_n (i := 0) C 7 dX7_worth_6 rfl rfl rfl ?_
  refine G_bipush (v := (-106)) C 9 dX7_worth_7 rfl rfl ?_
  refine G_icmp_gt C 26 12 dX7_worth_9 rfl rfl (fun _ => ?_) (fun c => absurd c (by decide))
  refine G_iload_n (i := 0) C 27 dX7_worth_26 rfl rfl rfl ?_
  refine G_ineg C 28 dX7_worth_27 rfl (fun x27 ex27 => ?_)
  obtain rfl : x27 = 42 := ex27.trans (by decide)
  refine G_ls (off := 155) C 183 dX7_worth_28 (by decide) (by decide) rfl ?_
  refine G_iload_n (i := 1) C 184 dX7_worth_183 rfl rfl rfl ?_
  refine G_iload_n (i := 2) C 185 dX7_worth_184 rfl rfl rfl ?_
  refine G_imul C 186 dX7_worth_185 rfl (fun x185 ex185 => ?_)
  exact G_iret C dX7_worth_186 (⟨rfl, by subst_vars; simp [x_wo, x_op2, *]⟩)
set_option maxHeartbeats 4000000 in
set_option maxRecDepth 100000 in
theorem c_X7_worth_19 (d w : Nat) (hw : isW w) (a b : Int32) (s : gS) : gMt SC yX7_worth cX7_worth 4 (some .int) (d + 1) (fun ad => [.int (-112), .int a, .int b, .ref (ad (w + 8))]) s (gQi SC (fun r s' => s' = s ∧ r = x_wo (s (w + 8)) 19 a b)) := by
  refine gMt_of SC_ok (by decide +kernel) (fun ad => [some (.int (-112)), some (.int a), some (.int b), some (.ref (ad (w + 8)))]) (fun _ => rfl) (fun _ => rfl) (fun _ => Nat.le_of_ble_eq_true rfl) (fun E C0 => ?_)
  have C : gCx SC E RX7 cX7_worth 4 (some .int) (d + 1) := C0
  refine G_iload_n (i := 0) C 1 dX7_worth_0 rfl rfl rfl ?_
  refine G_if_lt C 6 4 dX7_worth_1 rfl rfl (fun _ => ?_) (fun c => absurd c (by decide))
  refine G_iload_n (i := 0) C 7 dX7_worth_6 rfl rfl rfl ?_
  refine G_bipush (v := (-106)) C 9 dX7_worth_7 rfl rfl ?_
  refine G_icmp_gt C 26 12 dX7_worth_9 rfl rfl (fun c => absurd c (by decide)) (fun _ => ?_)
  refine G_iload_n (i := 0) C 13 dX7_worth_12 rfl rfl rfl ?_
  refine G_bipush (v := (-111)) C 15 dX7_worth_13 rfl rfl ?_
  refine G_icmp_lt C 26 18 dX7_worth_15 rfl rfl (fun _ => ?_) (fun c => absurd c (by decide))
  refine G_iload_n (i := 0) C 27 dX7_worth_26 rfl rfl rfl ?_
  refine G_ineg C 28 dX7_worth_27 rfl (fun x27 ex27 => ?_)
  obtain rfl : x27 = 112 := ex27.trans (by decide)
  refine G_ls (off := 84) C 112 dX7_worth_28 (by decide) (by decide) rfl ?_
  refine G_iload_n (i := 1) C 113 dX7_worth_112 rfl rfl rfl ?_
  refine G_ineg C 114 dX7_worth_113 rfl (fun x113 ex113 => ?_)
  exact G_iret C dX7_worth_114 (⟨rfl, by subst_vars; simp [x_wo, x_op2, *]⟩)
theorem c_X7_worth (d w : Nat) (hw : isW w) (c : Nat) (ok : x_ok c) (v a b : Int32) (hv : v = x_cl c) (s : gS) : gMt SC yX7_worth cX7_worth 4 (some .int) (d + 1) (fun ad => [.int v, .int a, .int b, .ref (ad (w + 8))]) s (gQi SC (fun r s' => s' = s ∧ r = x_wo (s (w + 8)) c a b)) := by
  subst hv
  refine x_okP (P := fun c => gMt SC yX7_worth cX7_worth 4 (some .int) (d + 1) (fun ad => [.int (x_cl c), .int a, .int b, .ref (ad (w + 8))]) s (gQi SC (fun r s' => s' = s ∧ r = x_wo (s (w + 8)) c a b))) ok (fun h1 h2 => ?_) (c_X7_worth_0 d w hw a b s) (c_X7_worth_1 d w hw a b s) (c_X7_worth_2 d w hw a b s) (c_X7_worth_3 d w hw a b s) (c_X7_worth_4 d w hw a b s) (c_X7_worth_5 d w hw a b s) (c_X7_worth_11 d w hw a b s) (c_X7_worth_12 d w hw a b s) (c_X7_worth_13 d w hw a b s) (c_X7_worth_14 d w hw a b s) (c_X7_worth_15 d w hw a b s) (c_X7_worth_16 d w hw a b s) (c_X7_worth_17 d w hw a b s) (c_X7_worth_18 d w hw a b s) (c_X7_worth_19 d w hw a b s)
  have e : x_wo (s (w + 8)) c a b = nI (c - 100000) := if_pos h1
  rw [e]
  exact c_X7_worth_n d w hw (c - 100000) (by omega) (x_cl c) a b (x_cl_num ⟨h1, h2⟩) s
theorem dX7_says_0 : decode cX7_says 0 = .ok (.iconst 0, 1) := by decide +kernel
theorem dX7_says_1 : decode cX7_says 1 = .ok (.istore_n 3, 1) := by decide +kernel
theorem dX7_says_2 : decode cX7_says 2 = .ok (.iload_n 1, 1) := by decide +kernel
theorem dX7_says_3 : decode cX7_says 3 = .ok (.ifCond .ne 7, 3) := by decide +kernel
theorem dX7_says_6 : decode cX7_says 6 = .ok (.iconst 0, 1) := by decide +kernel
theorem dX7_says_7 : decode cX7_says 7 = .ok (.goto 11, 3) := by decide +kernel
theorem dX7_says_10 : decode cX7_says 10 = .ok (.aload_n 0, 1) := by decide +kernel
theorem dX7_says_11 : decode cX7_says 11 = .ok (.getfield 15, 3) := by decide +kernel
theorem dX7_says_14 : decode cX7_says 14 = .ok (.iload_n 1, 1) := by decide +kernel
theorem dX7_says_15 : decode cX7_says 15 = .ok (.iconst 1, 1) := by decide +kernel
theorem dX7_says_16 : decode cX7_says 16 = .ok (.isub, 1) := by decide +kernel
theorem dX7_says_17 : decode cX7_says 17 = .ok (.iaload, 1) := by decide +kernel
theorem dX7_says_18 : decode cX7_says 18 = .ok (.istore 4, 2) := by decide +kernel
theorem dX7_says_20 : decode cX7_says 20 = .ok (.iload 4, 2) := by decide +kernel
theorem dX7_says_22 : decode cX7_says 22 = .ok (.aload_n 0, 1) := by decide +kernel
theorem dX7_says_23 : decode cX7_says 23 = .ok (.getfield 15, 3) := by decide +kernel
theorem dX7_says_26 : decode cX7_says 26 = .ok (.iload_n 1, 1) := by decide +kernel
theorem dX7_says_27 : decode cX7_says 27 = .ok (.iaload, 1) := by decide +kernel
theorem dX7_says_28 : decode cX7_says 28 = .ok (.if_icmp .ge 105, 3) := by decide +kernel
theorem dX7_says_31 : decode cX7_says 31 = .ok (.aload_n 0, 1) := by decide +kernel
theorem dX7_says_32 : decode cX7_says 32 = .ok (.getfield 9, 3) := by decide +kernel
theorem dX7_says_35 : decode cX7_says 35 = .ok (.iload 4, 2) := by decide +kernel
theorem dX7_says_37 : decode cX7_says 37 = .ok (.iaload, 1) := by decide +kernel
theorem dX7_says_38 : decode cX7_says 38 = .ok (.invokestatic 25, 3) := by decide +kernel
theorem dX7_says_41 : decode cX7_says 41 = .ok (.istore 5, 2) := by decide +kernel
theorem dX7_says_43 : decode cX7_says 43 = .ok (.iload_n 3, 1) := by decide +kernel
theorem dX7_says_44 : decode cX7_says 44 = .ok (.iload 5, 2) := by decide +kernel
theorem dX7_says_46 : decode cX7_says 46 = .ok (.if_icmp .lt 13, 3) := by decide +kernel
theorem dX7_says_49 : decode cX7_says 49 = .ok (.iload_n 3, 1) := by decide +kernel
theorem dX7_says_50 : decode cX7_says 50 = .ok (.iload 5, 2) := by decide +kernel
theorem dX7_says_52 : decode cX7_says 52 = .ok (.isub, 1) := by decide +kernel
theorem dX7_says_53 : decode cX7_says 53 = .ok (.sipush 160, 3) := by decide +kernel
theorem dX7_says_56 : decode cX7_says 56 = .ok (.if_icmp .lt 5, 3) := by decide +kernel
theorem dX7_says_59 : decode cX7_says 59 = .ok (.iconst 0, 1) := by decide +kernel
theorem dX7_says_60 : decode cX7_says 60 = .ok (.ireturn, 1) := by decide +kernel
theorem dX7_says_61 : decode cX7_says 61 = .ok (.iload_n 3, 1) := by decide +kernel
theorem dX7_says_62 : decode cX7_says 62 = .ok (.iload 5, 2) := by decide +kernel
theorem dX7_says_64 : decode cX7_says 64 = .ok (.isub, 1) := by decide +kernel
theorem dX7_says_65 : decode cX7_says 65 = .ok (.istore_n 3, 1) := by decide +kernel
theorem dX7_says_66 : decode cX7_says 66 = .ok (.iload 5, 2) := by decide +kernel
theorem dX7_says_68 : decode cX7_says 68 = .ok (.ifCond .le 12, 3) := by decide +kernel
theorem dX7_says_71 : decode cX7_says 71 = .ok (.aload_n 0, 1) := by decide +kernel
theorem dX7_says_72 : decode cX7_says 72 = .ok (.getfield 18, 3) := by decide +kernel
theorem dX7_says_75 : decode cX7_says 75 = .ok (.iload_n 3, 1) := by decide +kernel
theorem dX7_says_76 : decode cX7_says 76 = .ok (.iaload, 1) := by decide +kernel
theorem dX7_says_77 : decode cX7_says 77 = .ok (.goto 4, 3) := by decide +kernel
theorem dX7_says_80 : decode cX7_says 80 = .ok (.iconst 0, 1) := by decide +kernel
theorem dX7_says_81 : decode cX7_says 81 = .ok (.istore 6, 2) := by decide +kernel
theorem dX7_says_83 : decode cX7_says 83 = .ok (.iload 5, 2) := by decide +kernel
theorem dX7_says_85 : decode cX7_says 85 = .ok (.iconst 1, 1) := by decide +kernel
theorem dX7_says_86 : decode cX7_says 86 = .ok (.if_icmp .le 14, 3) := by decide +kernel
theorem dX7_says_89 : decode cX7_says 89 = .ok (.aload_n 0, 1) := by decide +kernel
theorem dX7_says_90 : decode cX7_says 90 = .ok (.getfield 18, 3) := by decide +kernel
theorem dX7_says_93 : decode cX7_says 93 = .ok (.iload_n 3, 1) := by decide +kernel
theorem dX7_says_94 : decode cX7_says 94 = .ok (.iconst 1, 1) := by decide +kernel
theorem dX7_says_95 : decode cX7_says 95 = .ok (.iadd, 1) := by decide +kernel
theorem dX7_says_96 : decode cX7_says 96 = .ok (.iaload, 1) := by decide +kernel
theorem dX7_says_97 : decode cX7_says 97 = .ok (.goto 4, 3) := by decide +kernel
theorem dX7_says_100 : decode cX7_says 100 = .ok (.iconst 0, 1) := by decide +kernel
theorem dX7_says_101 : decode cX7_says 101 = .ok (.istore 7, 2) := by decide +kernel
theorem dX7_says_103 : decode cX7_says 103 = .ok (.aload_n 0, 1) := by decide +kernel
theorem dX7_says_104 : decode cX7_says 104 = .ok (.getfield 18, 3) := by decide +kernel
theorem dX7_says_107 : decode cX7_says 107 = .ok (.iload_n 3, 1) := by decide +kernel
theorem dX7_says_108 : decode cX7_says 108 = .ok (.aload_n 0, 1) := by decide +kernel
theorem dX7_says_109 : decode cX7_says 109 = .ok (.getfield 9, 3) := by decide +kernel
theorem dX7_says_112 : decode cX7_says 112 = .ok (.iload 4, 2) := by decide +kernel
theorem dX7_says_114 : decode cX7_says 114 = .ok (.iaload, 1) := by decide +kernel
theorem dX7_says_115 : decode cX7_says 115 = .ok (.iload 6, 2) := by decide +kernel
theorem dX7_says_117 : decode cX7_says 117 = .ok (.iload 7, 2) := by decide +kernel
theorem dX7_says_119 : decode cX7_says 119 = .ok (.aload_n 2, 1) := by decide +kernel
theorem dX7_says_120 : decode cX7_says 120 = .ok (.invokestatic 29, 3) := by decide +kernel
theorem dX7_says_123 : decode cX7_says 123 = .ok (.iastore, 1) := by decide +kernel
theorem dX7_says_124 : decode cX7_says 124 = .ok (.iinc 3 1, 3) := by decide +kernel
theorem dX7_says_127 : decode cX7_says 127 = .ok (.iinc 4 1, 3) := by decide +kernel
theorem dX7_says_130 : decode cX7_says 130 = .ok (.goto (-110), 3) := by decide +kernel
theorem dX7_says_133 : decode cX7_says 133 = .ok (.iload_n 1, 1) := by decide +kernel
theorem dX7_says_134 : decode cX7_says 134 = .ok (.iconst 2, 1) := by decide +kernel
theorem dX7_says_135 : decode cX7_says 135 = .ok (.if_icmp .ne 8, 3) := by decide +kernel
theorem dX7_says_138 : decode cX7_says 138 = .ok (.bipush (-99), 2) := by decide +kernel
theorem dX7_says_140 : decode cX7_says 140 = .ok (.goto 4, 3) := by decide +kernel
theorem dX7_says_143 : decode cX7_says 143 = .ok (.iconst 0, 1) := by decide +kernel
theorem dX7_says_144 : decode cX7_says 144 = .ok (.bipush 99, 2) := by decide +kernel
theorem dX7_says_146 : decode cX7_says 146 = .ok (.aload_n 0, 1) := by decide +kernel
theorem dX7_says_147 : decode cX7_says 147 = .ok (.getfield 18, 3) := by decide +kernel
theorem dX7_says_150 : decode cX7_says 150 = .ok (.iconst 0, 1) := by decide +kernel
theorem dX7_says_151 : decode cX7_says 151 = .ok (.iaload, 1) := by decide +kernel
theorem dX7_says_152 : decode cX7_says 152 = .ok (.invokestatic 33, 3) := by decide +kernel
theorem dX7_says_155 : decode cX7_says 155 = .ok (.invokestatic 39, 3) := by decide +kernel
theorem dX7_says_158 : decode cX7_says 158 = .ok (.ireturn, 1) := by decide +kernel
set_option maxHeartbeats 4000000 in
set_option maxRecDepth 100000 in
theorem c_X7_says (d : Nat) (TX : gTX) (t w j : Nat) (ht : t < 6) (hw : isW w) (hj : j < 3) (pt : Int32) (hpt : pt = nI j) (s : gS) (hT : cT TX s t) (hH : x_ht (TX t j) 0 = some 1) : gMt SC yX7_says cX7_says 8 (some .int) (d + 2) (fun ad => [.ref (ad (6 + 4 * t)), .int pt, .ref (ad (w + 8))]) s (gQi SC (fun r s' => Fr (fun q => q = 6 + 4 * t + 3) s s' ∧ r = x_clamp (x_lo j) (x_say (s (w + 8)) (TX t j)))) := by
  have h160 := cT_160 hT hj
  have hbE := x_begE (TX := TX) (t := t) hj
  refine gMt_of SC_ok (by decide +kernel) (fun ad => [some (.ref (ad (6 + 4 * t))), some (.int pt), some (.ref (ad (w + 8))), none, none, none, none, none]) (fun _ => rfl) (fun _ => rfl) (fun _ => Nat.le_of_ble_eq_true rfl) (fun E C0 => ?_)
  have C : gCx SC E RX7 cX7_says 8 (some .int) (d + 2) := C0
  have f : Fr (fun q => q = 6 + 4 * t + 3) s s := Fr.rf
  refine G_iconst (v := 0) C 1 dX7_says_0 rfl rfl ?_
  refine G_istore_n (i := 3) (L' := [some (.ref (e_ad E (6 + 4 * t))), some (.int pt), some (.ref (e_ad E (w + 8))), some (.int 0), none, none, none, none]) C 2 dX7_says_1 rfl rfl (Nat.le_of_ble_eq_true rfl) rfl rfl ?_
  refine G_iload_n (i := 1) C 3 dX7_says_2 rfl rfl rfl ?_
  refine G_if_ne C 10 6 dX7_says_3 rfl rfl (fun c3 => ?_) (fun c3 => ?_)
  ·
    have n3 : ¬ j = 0 := fun h => c3 ((g_eqN (a := j) (b := 0) (hx := hpt) (hy := rfl) (by omega) (by omega)).mpr h)
    refine G_aload_n (i := 0) C 11 dX7_says_10 rfl rfl rfl ?_
    refine X7_15g C ht 14 dX7_says_11 rfl ?_
    refine G_iload_n (i := 1) C 15 dX7_says_14 rfl rfl rfl ?_
    refine G_iconst (v := 1) C 16 dX7_says_15 rfl rfl ?_
    refine G_isub C 17 dX7_says_16 rfl (fun x16 ex16 => ?_)
    have Nx16 : x16 = nI (j - 1) := g_subN ex16 hpt rfl (by omega)
    refine G_iald (n := 3) C 18 (lT ht (by decide)) (eTe _ _ _ ht) ((j - 1)) Nx16 (by omega) (by decide) dX7_says_17 rfl (fun x17 ex17 => ?_)
    have Sx17 : x17 = nI (x_end TX t ((j - 1))) := ex17.trans ((congrFun (f _ (by omega)) _).trans (cT_end hT (by omega)))
    have Sx17b : x17 = nI (x_beg TX t j) := by rw [Sx17, x_begP (by omega)]
    refine G_istore (L' := [some (.ref (e_ad E (6 + 4 * t))), some (.int pt), some (.ref (e_ad E (w + 8))), some (.int 0), some (.int x17), none, none, none]) C 20 dX7_says_18 rfl (Nat.le_of_ble_eq_true rfl) rfl rfl ?_
    have L20 : ∀ (f20 : Nat) (k : Nat) (stk : List Int32) (top i : Int32) (sl20 : gS) (Etop : top = nI (stk.length)) (Ei : i = nI ((x_beg TX t j + k))) (hk : k ≤ (TX t j).length) (hl : stk.length ≤ k) (hev : x_ev (s (w + 8)) ((TX t j).drop k) stk = x_ev (s (w + 8)) (TX t j) []) (hht : x_ht ((TX t j).drop k) stk.length = some 1) (hs : x_stk (sl20 (6 + 4 * t + 3)) stk) (fl20 : Fr (fun q => q = 6 + 4 * t + 3) s sl20), (TX t j).length < k + f20 → GW SC E (gFin SC E (gQi SC (fun r s' => Fr (fun q => q = 6 + 4 * t + 3) s s' ∧ r = x_clamp (x_lo j) (x_say (s (w + 8)) (TX t j))))) 20 [some (.ref (e_ad E (6 + 4 * t))), some (.int pt), some (.ref (e_ad E (w + 8))), some (.int top), some (.int i), none, none, none] [] sl20 := by
      intro f20
      induction f20 with
      | zero =>
        intro k stk top i sl20 Etop Ei hk hl hev hht hs fl20 hf20
        exact absurd hf20 (by omega)
      | succ f20 ih20 =>
        intro k stk top i sl20 Etop Ei hk hl hev hht hs fl20 hf20
        refine G_iload C 22 dX7_says_20 rfl rfl ?_
        refine G_aload_n (i := 0) C 23 dX7_says_22 rfl rfl rfl ?_
        refine X7_15g C ht 26 dX7_says_23 rfl ?_
        refine G_iload_n (i := 1) C 27 dX7_says_26 rfl rfl rfl ?_
        refine G_iald (n := 3) C 28 (lT ht (by decide)) (eTe _ _ _ ht) (j) hpt (by omega) (by decide) dX7_says_27 rfl (fun x27 ex27 => ?_)
        have Sx27 : x27 = nI (x_end TX t (j)) := ex27.trans ((congrFun (fl20 _ (by omega)) _).trans (cT_end hT (by omega)))
        refine G_icmp_ge C 133 31 dX7_says_28 rfl rfl (fun c28 => ?_) (fun c28 => ?_)
        ·
          have n28 : ¬ (x_beg TX t j + k) < (x_end TX t (j)) := fun h => c28 ((g_ltN (a := (x_beg TX t j + k)) (b := (x_end TX t (j))) (hx := Ei) (hy := Sx27) (by omega) (by omega)).mpr h)
          refine G_iload_n (i := 1) C 134 dX7_says_133 rfl rfl rfl ?_
          refine G_iconst (v := 2) C 135 dX7_says_134 rfl rfl ?_
          refine G_icmp_ne C 143 138 dX7_says_135 rfl rfl (fun c135 => ?_) (fun c135 => ?_)
          ·
            have n135 : ¬ j = 2 := fun h => c135 ((g_eqN (a := j) (b := 2) (hx := hpt) (hy := rfl) (by omega) (by omega)).mpr h)
            refine G_iconst (v := 0) C 144 dX7_says_143 rfl rfl ?_
            refine G_bipush (v := 99) C 146 dX7_says_144 rfl rfl ?_
            refine G_aload_n (i := 0) C 147 dX7_says_146 rfl rfl rfl ?_
            refine X7_18g C ht 150 dX7_says_147 rfl ?_
            refine G_iconst (v := 0) C 151 dX7_says_150 rfl rfl ?_
            refine G_iald (n := 160) C 152 (lT ht (by decide)) (eTv _ _ _ ht) (0) rfl (by omega) (by decide) dX7_says_151 rfl (fun x151 ex151 => ?_)
            refine G_calli 155 (G_runS C Kc_J9_min_7cf53 KS_X7_33 (by omega) (c_J9_min_7cf53 0 99 x151 sl20) rfl rfl (Nat.le_of_ble_eq_true rfl) rfl dX7_says_152) rfl (fun x152 s152 h152 => ?_)
            obtain ⟨es152, h152⟩ := h152
            have es152 := es152.symm
            subst es152
            refine G_calli 158 (G_runS C Kc_J9_max_7cf53 KS_X7_39 (by omega) (c_J9_max_7cf53 0 0 x152 sl20) rfl rfl (Nat.le_of_ble_eq_true rfl) rfl dX7_says_155) rfl (fun x155 s155 h155 => ?_)
            obtain ⟨es155, h155⟩ := h155
            have es155 := es155.symm
            subst es155
            exact G_iret C dX7_says_158 (⟨fl20, by
                have e0 : (TX t j).drop k = [] := List.drop_eq_nil_of_le (by omega)
                rw [e0] at hev hht
                have e1 : stk.length = 1 := Option.some.inj hht
                obtain ⟨a, rfl⟩ := List.length_eq_one_iff.mp e1
                have e2 : x_say (s (w + 8)) (TX t j) = a := by
                  unfold x_say
                  rw [← hev]
                  rfl
                have e3 : x151 = a := ex151.trans hs.1
                have e4 : x_lo j = (0 : Int32) := if_neg n135
                rw [e2, e4, ← x_clampM (Or.inr rfl), h155, h152, e3]⟩)
          ·
            have n135 : j = 2 := (g_eqN (a := j) (b := 2) (hx := hpt) (hy := rfl) (by omega) (by omega)).mp c135
            refine G_bipush (v := (-99)) C 140 dX7_says_138 rfl rfl ?_
            refine G_goto C 144 dX7_says_140 rfl ?_
            refine G_bipush (v := 99) C 146 dX7_says_144 rfl rfl ?_
            refine G_aload_n (i := 0) C 147 dX7_says_146 rfl rfl rfl ?_
            refine X7_18g C ht 150 dX7_says_147 rfl ?_
            refine G_iconst (v := 0) C 151 dX7_says_150 rfl rfl ?_
            refine G_iald (n := 160) C 152 (lT ht (by decide)) (eTv _ _ _ ht) (0) rfl (by omega) (by decide) dX7_says_151 rfl (fun x151 ex151 => ?_)
            refine G_calli 155 (G_runS C Kc_J9_min_7cf53 KS_X7_33 (by omega) (c_J9_min_7cf53 0 99 x151 sl20) rfl rfl (Nat.le_of_ble_eq_true rfl) rfl dX7_says_152) rfl (fun x152 s152 h152 => ?_)
            obtain ⟨es152, h152⟩ := h152
            have es152 := es152.symm
            subst es152
            refine G_calli 158 (G_runS C Kc_J9_max_7cf53 KS_X7_39 (by omega) (c_J9_max_7cf53 0 (-99) x152 sl20) rfl rfl (Nat.le_of_ble_eq_true rfl) rfl dX7_says_155) rfl (fun x155 s155 h155 => ?_)
            obtain ⟨es155, h155⟩ := h155
            have es155 := es155.symm
            subst es155
            exact G_iret C dX7_says_158 (⟨fl20, by
                have e0 : (TX t j).drop k = [] := List.drop_eq_nil_of_le (by omega)
                rw [e0] at hev hht
                have e1 : stk.length = 1 := Option.some.inj hht
                obtain ⟨a, rfl⟩ := List.length_eq_one_iff.mp e1
                have e2 : x_say (s (w + 8)) (TX t j) = a := by
                  unfold x_say
                  rw [← hev]
                  rfl
                have e3 : x151 = a := ex151.trans hs.1
                have e4 : x_lo j = (-99 : Int32) := if_pos n135
                rw [e2, e4, ← x_clampM (Or.inl rfl), h155, h152, e3]⟩)
        ·
          have n28 : (x_beg TX t j + k) < (x_end TX t (j)) := (g_ltN (a := (x_beg TX t j + k)) (b := (x_end TX t (j))) (hx := Ei) (hy := Sx27) (by omega) (by omega)).mp c28
          obtain ⟨c, hc⟩ : ∃ c, (TX t j)[k]? = some c := ⟨_, List.getElem?_eq_getElem (by omega)⟩
          obtain ⟨ok, htk, hht2⟩ := x_ht_drop hc hht
          have htk2 := x_tk2 c
          refine G_aload_n (i := 0) C 32 dX7_says_31 rfl rfl rfl ?_
          refine X7_9g C ht 35 dX7_says_32 rfl ?_
          refine G_iload C 37 dX7_says_35 rfl rfl ?_
          refine G_iald (n := 160) C 38 (lT ht (by decide)) (eTs _ _ _ ht) ((x_beg TX t j + k)) Ei (by omega) (by decide) dX7_says_37 rfl (fun x37 ex37 => ?_)
          have Sx37 : x37 = x_cl c := ex37.trans ((congrFun (fl20 _ (by omega)) _).trans (cT_step hT hj hc))
          refine G_calli 41 (G_runS C Kc_X7_valuesTaken KS_X7_25 (by omega) (c_X7_valuesTaken 0 c ok x37 Sx37 sl20) rfl rfl (Nat.le_of_ble_eq_true rfl) rfl dX7_says_38) rfl (fun x38 s38 h38 => ?_)
          obtain ⟨es38, h38⟩ := h38
          have es38 := es38.symm
          subst es38
          refine G_istore (L' := [some (.ref (e_ad E (6 + 4 * t))), some (.int pt), some (.ref (e_ad E (w + 8))), some (.int top), some (.int i), some (.int x38), none, none]) C 43 dX7_says_41 rfl (Nat.le_of_ble_eq_true rfl) rfl rfl ?_
          refine G_iload_n (i := 3) C 44 dX7_says_43 rfl rfl rfl ?_
          refine G_iload C 46 dX7_says_44 rfl rfl ?_
          refine G_icmp_lt C 59 49 dX7_says_46 rfl rfl (fun c46 => ?_) (fun c46 => ?_)
          ·
            have n46 : stk.length < (x_tk c) := (g_ltN (a := stk.length) (b := (x_tk c)) (hx := Etop) (hy := h38) (by omega) (by omega)).mp c46
            exfalso; omega
          ·
            have n46 : ¬ stk.length < (x_tk c) := fun h => c46 ((g_ltN (a := stk.length) (b := (x_tk c)) (hx := Etop) (hy := h38) (by omega) (by omega)).mpr h)
            refine G_iload_n (i := 3) C 50 dX7_says_49 rfl rfl rfl ?_
            refine G_iload C 52 dX7_says_50 rfl rfl ?_
            refine G_isub C 53 dX7_says_52 rfl (fun x52 ex52 => ?_)
            have Nx52 : x52 = nI (stk.length - x_tk c) := g_subN ex52 Etop h38 htk
            refine G_sipush (v := 160) C 56 dX7_says_53 rfl rfl ?_
            refine G_icmp_lt C 61 59 dX7_says_56 rfl rfl (fun c56 => ?_) (fun c56 => ?_)
            ·
              have n56 : (stk.length - x_tk c) < 160 := (g_ltN (a := (stk.length - x_tk c)) (b := 160) (hx := Nx52) (hy := rfl) (by omega) (by omega)).mp c56
              refine G_iload_n (i := 3) C 62 dX7_says_61 rfl rfl rfl ?_
              refine G_iload C 64 dX7_says_62 rfl rfl ?_
              refine G_isub C 65 dX7_says_64 rfl (fun x64 ex64 => ?_)
              have Nx64 : x64 = nI (stk.length - x_tk c) := g_subN ex64 Etop h38 htk
              refine G_istore_n (i := 3) (L' := [some (.ref (e_ad E (6 + 4 * t))), some (.int pt), some (.ref (e_ad E (w + 8))), some (.int x64), some (.int i), some (.int x38), none, none]) C 66 dX7_says_65 rfl rfl (Nat.le_of_ble_eq_true rfl) rfl rfl ?_
              refine G_iload C 68 dX7_says_66 rfl rfl ?_
              refine G_if_le C 80 71 dX7_says_68 rfl rfl (fun c68 => ?_) (fun c68 => ?_)
              ·
                have n68 : ¬ 0 < (x_tk c) := fun h => c68 ((g_ltN (a := 0) (b := (x_tk c)) (hx := rfl) (hy := h38) (by omega) (by omega)).mpr h)
                refine G_iconst (v := 0) C 81 dX7_says_80 rfl rfl ?_
                refine G_istore (L' := [some (.ref (e_ad E (6 + 4 * t))), some (.int pt), some (.ref (e_ad E (w + 8))), some (.int x64), some (.int i), some (.int x38), some (.int 0), none]) C 83 dX7_says_81 rfl (Nat.le_of_ble_eq_true rfl) rfl rfl ?_
                refine G_iload C 85 dX7_says_83 rfl rfl ?_
                refine G_iconst (v := 1) C 86 dX7_says_85 rfl rfl ?_
                refine G_icmp_le C 100 89 dX7_says_86 rfl rfl (fun c86 => ?_) (fun c86 => ?_)
                ·
                  have n86 : ¬ 1 < (x_tk c) := fun h => c86 ((g_ltN (a := 1) (b := (x_tk c)) (hx := rfl) (hy := h38) (by omega) (by omega)).mpr h)
                  refine G_iconst (v := 0) C 101 dX7_says_100 rfl rfl ?_
                  refine G_istore (L' := [some (.ref (e_ad E (6 + 4 * t))), some (.int pt), some (.ref (e_ad E (w + 8))), some (.int x64), some (.int i), some (.int x38), some (.int 0), some (.int 0)]) C 103 dX7_says_101 rfl (Nat.le_of_ble_eq_true rfl) rfl rfl ?_
                  refine G_aload_n (i := 0) C 104 dX7_says_103 rfl rfl rfl ?_
                  refine X7_18g C ht 107 dX7_says_104 rfl ?_
                  refine G_iload_n (i := 3) C 108 dX7_says_107 rfl rfl rfl ?_
                  refine G_aload_n (i := 0) C 109 dX7_says_108 rfl rfl rfl ?_
                  refine X7_9g C ht 112 dX7_says_109 rfl ?_
                  refine G_iload C 114 dX7_says_112 rfl rfl ?_
                  refine G_iald (n := 160) C 115 (lT ht (by decide)) (eTs _ _ _ ht) ((x_beg TX t j + k)) Ei (by omega) (by decide) dX7_says_114 rfl (fun x114 ex114 => ?_)
                  have Sx114 : x114 = x_cl c := ex114.trans ((congrFun (fl20 _ (by omega)) _).trans (cT_step hT hj hc))
                  refine G_iload C 117 dX7_says_115 rfl rfl ?_
                  refine G_iload C 119 dX7_says_117 rfl rfl ?_
                  refine G_aload_n (i := 2) C 120 dX7_says_119 rfl rfl rfl ?_
                  refine G_calli 123 (G_runS C Kc_X7_worth KS_X7_29 (by omega) (c_X7_worth 0 w hw c ok x114 0 0 Sx114 sl20) rfl rfl (Nat.le_of_ble_eq_true rfl) rfl dX7_says_120) rfl (fun x120 s120 h120 => ?_)
                  obtain ⟨es120, h120⟩ := h120
                  have es120 := es120.symm
                  subst es120
                  refine G_iast (n := 160) C 124 (lT ht (by decide)) (fun σ => eTv _ _ σ ht) ((stk.length - x_tk c)) Nx64 (by omega) (by decide) (Nat.le_of_eq (nT3 ht).symm) dX7_says_123 rfl (fun s123 es123 => ?_)
                  have f_1 : Fr (fun q => q = 6 + 4 * t + 3) s s123 := Fr.tr fl20 (Fr.up es123 rfl)
                  refine G_iinc (w := 1) C 127 dX7_says_124 rfl rfl rfl rfl (fun x124 ex124 => ?_)
                  have Nx124 : x124 = nI ((stk.length - x_tk c) + 1) := g_addN ex124 Nx64 rfl
                  show GW SC E _ 127 [some (.ref (e_ad E (6 + 4 * t))), some (.int pt), some (.ref (e_ad E (w + 8))), some (.int x124), some (.int i), some (.int x38), some (.int 0), some (.int 0)] [] s123
                  refine G_iinc (w := 1) C 130 dX7_says_127 rfl rfl rfl rfl (fun x127 ex127 => ?_)
                  have Nx127 : x127 = nI ((x_beg TX t j + k) + 1) := g_addN ex127 Ei rfl
                  show GW SC E _ 130 [some (.ref (e_ad E (6 + 4 * t))), some (.int pt), some (.ref (e_ad E (w + 8))), some (.int x124), some (.int x127), some (.int x38), some (.int 0), some (.int 0)] [] s123
                  refine G_goto C 20 dX7_says_130 rfl ?_
                  refine G_drop (L' := [some (.ref (e_ad E (6 + 4 * t))), some (.int pt), some (.ref (e_ad E (w + 8))), some (.int x124), some (.int x127), none, none, none]) ⟨rfl, rfl, rfl, rfl, rfl, trivial⟩ ?_
                  have hst : x_st (s (w + 8)) c stk = x120 :: stk.drop (x_tk c) := by
                    rw [h120, fl20 _ (by rcases hw with rfl | rfl | rfl <;> omega)]
                    exact x_st_all hs ok htk 0 0 (fun q => absurd q (by omega)) (fun q => absurd q (by omega))
                  exact ih20 (k + 1) (x120 :: stk.drop (x_tk c)) x124 x127 s123 (g_cn (a := ((stk.length - x_tk c) + 1)) Nx124 (by first | rfl | omega | (simp only [List.length_cons, List.length_drop]; done) | (simp only [List.length_cons, List.length_drop]; omega))) (g_cn (a := ((x_beg TX t j + k) + 1)) Nx127 (by first | rfl | omega | (simp only [List.length_cons, List.length_drop]; done) | (simp only [List.length_cons, List.length_drop]; omega))) (by omega) (by simp only [List.length_cons, List.length_drop]; omega) (by rw [← hst, ← x_ev_drop hc]; exact hev) (by simp only [List.length_cons, List.length_drop]; exact hht2) (by rw [es123]; unfold g_up; rw [g_set_s]; have e9 : (stk.drop (x_tk c)).length = stk.length - x_tk c := List.length_drop; rw [← e9]; exact x_stk_push (x_stk_drop hs)) f_1 (by omega)
                ·
                  have n86 : 1 < (x_tk c) := (g_ltN (a := 1) (b := (x_tk c)) (hx := rfl) (hy := h38) (by omega) (by omega)).mp c86
                  refine G_aload_n (i := 0) C 90 dX7_says_89 rfl rfl rfl ?_
                  refine X7_18g C ht 93 dX7_says_90 rfl ?_
                  refine G_iload_n (i := 3) C 94 dX7_says_93 rfl rfl rfl ?_
                  refine G_iconst (v := 1) C 95 dX7_says_94 rfl rfl ?_
                  refine G_iadd C 96 dX7_says_95 rfl (fun x95 ex95 => ?_)
                  have Nx95 : x95 = nI ((stk.length - x_tk c) + 1) := g_addN ex95 Nx64 rfl
                  refine G_iald (n := 160) C 97 (lT ht (by decide)) (eTv _ _ _ ht) (((stk.length - x_tk c) + 1)) Nx95 (by omega) (by decide) dX7_says_96 rfl (fun x96 ex96 => ?_)
                  refine G_goto C 101 dX7_says_97 rfl ?_
                  refine G_istore (L' := [some (.ref (e_ad E (6 + 4 * t))), some (.int pt), some (.ref (e_ad E (w + 8))), some (.int x64), some (.int i), some (.int x38), some (.int 0), some (.int x96)]) C 103 dX7_says_101 rfl (Nat.le_of_ble_eq_true rfl) rfl rfl ?_
                  refine G_aload_n (i := 0) C 104 dX7_says_103 rfl rfl rfl ?_
                  refine X7_18g C ht 107 dX7_says_104 rfl ?_
                  refine G_iload_n (i := 3) C 108 dX7_says_107 rfl rfl rfl ?_
                  refine G_aload_n (i := 0) C 109 dX7_says_108 rfl rfl rfl ?_
                  refine X7_9g C ht 112 dX7_says_109 rfl ?_
                  refine G_iload C 114 dX7_says_112 rfl rfl ?_
                  refine G_iald (n := 160) C 115 (lT ht (by decide)) (eTs _ _ _ ht) ((x_beg TX t j + k)) Ei (by omega) (by decide) dX7_says_114 rfl (fun x114 ex114 => ?_)
                  have Sx114 : x114 = x_cl c := ex114.trans ((congrFun (fl20 _ (by omega)) _).trans (cT_step hT hj hc))
                  refine G_iload C 117 dX7_says_115 rfl rfl ?_
                  refine G_iload C 119 dX7_says_117 rfl rfl ?_
                  refine G_aload_n (i := 2) C 120 dX7_says_119 rfl rfl rfl ?_
                  refine G_calli 123 (G_runS C Kc_X7_worth KS_X7_29 (by omega) (c_X7_worth 0 w hw c ok x114 0 x96 Sx114 sl20) rfl rfl (Nat.le_of_ble_eq_true rfl) rfl dX7_says_120) rfl (fun x120 s120 h120 => ?_)
                  obtain ⟨es120, h120⟩ := h120
                  have es120 := es120.symm
                  subst es120
                  refine G_iast (n := 160) C 124 (lT ht (by decide)) (fun σ => eTv _ _ σ ht) ((stk.length - x_tk c)) Nx64 (by omega) (by decide) (Nat.le_of_eq (nT3 ht).symm) dX7_says_123 rfl (fun s123 es123 => ?_)
                  have f_1 : Fr (fun q => q = 6 + 4 * t + 3) s s123 := Fr.tr fl20 (Fr.up es123 rfl)
                  refine G_iinc (w := 1) C 127 dX7_says_124 rfl rfl rfl rfl (fun x124 ex124 => ?_)
                  have Nx124 : x124 = nI ((stk.length - x_tk c) + 1) := g_addN ex124 Nx64 rfl
                  show GW SC E _ 127 [some (.ref (e_ad E (6 + 4 * t))), some (.int pt), some (.ref (e_ad E (w + 8))), some (.int x124), some (.int i), some (.int x38), some (.int 0), some (.int x96)] [] s123
                  refine G_iinc (w := 1) C 130 dX7_says_127 rfl rfl rfl rfl (fun x127 ex127 => ?_)
                  have Nx127 : x127 = nI ((x_beg TX t j + k) + 1) := g_addN ex127 Ei rfl
                  show GW SC E _ 130 [some (.ref (e_ad E (6 + 4 * t))), some (.int pt), some (.ref (e_ad E (w + 8))), some (.int x124), some (.int x127), some (.int x38), some (.int 0), some (.int x96)] [] s123
                  refine G_goto C 20 dX7_says_130 rfl ?_
                  refine G_drop (L' := [some (.ref (e_ad E (6 + 4 * t))), some (.int pt), some (.ref (e_ad E (w + 8))), some (.int x124), some (.int x127), none, none, none]) ⟨rfl, rfl, rfl, rfl, rfl, trivial⟩ ?_
                  have hst : x_st (s (w + 8)) c stk = x120 :: stk.drop (x_tk c) := by
                    rw [h120, fl20 _ (by rcases hw with rfl | rfl | rfl <;> omega)]
                    exact x_st_all hs ok htk 0 x96 (fun q => absurd q (by omega)) (fun _ => ex96)
                  exact ih20 (k + 1) (x120 :: stk.drop (x_tk c)) x124 x127 s123 (g_cn (a := ((stk.length - x_tk c) + 1)) Nx124 (by first | rfl | omega | (simp only [List.length_cons, List.length_drop]; done) | (simp only [List.length_cons, List.length_drop]; omega))) (g_cn (a := ((x_beg TX t j + k) + 1)) Nx127 (by first | rfl | omega | (simp only [List.length_cons, List.length_drop]; done) | (simp only [List.length_cons, List.length_drop]; omega))) (by omega) (by simp only [List.length_cons, List.length_drop]; omega) (by rw [← hst, ← x_ev_drop hc]; exact hev) (by simp only [List.length_cons, List.length_drop]; exact hht2) (by rw [es123]; unfold g_up; rw [g_set_s]; have e9 : (stk.drop (x_tk c)).length = stk.length - x_tk c := List.length_drop; rw [← e9]; exact x_stk_push (x_stk_drop hs)) f_1 (by omega)
              ·
                have n68 : 0 < (x_tk c) := (g_ltN (a := 0) (b := (x_tk c)) (hx := rfl) (hy := h38) (by omega) (by omega)).mp c68
                refine G_aload_n (i := 0) C 72 dX7_says_71 rfl rfl rfl ?_
                refine X7_18g C ht 75 dX7_says_72 rfl ?_
                refine G_iload_n (i := 3) C 76 dX7_says_75 rfl rfl rfl ?_
                refine G_iald (n := 160) C 77 (lT ht (by decide)) (eTv _ _ _ ht) ((stk.length - x_tk c)) Nx64 (by omega) (by decide) dX7_says_76 rfl (fun x76 ex76 => ?_)
                refine G_goto C 81 dX7_says_77 rfl ?_
                refine G_istore (L' := [some (.ref (e_ad E (6 + 4 * t))), some (.int pt), some (.ref (e_ad E (w + 8))), some (.int x64), some (.int i), some (.int x38), some (.int x76), none]) C 83 dX7_says_81 rfl (Nat.le_of_ble_eq_true rfl) rfl rfl ?_
                refine G_iload C 85 dX7_says_83 rfl rfl ?_
                refine G_iconst (v := 1) C 86 dX7_says_85 rfl rfl ?_
                refine G_icmp_le C 100 89 dX7_says_86 rfl rfl (fun c86 => ?_) (fun c86 => ?_)
                ·
                  have n86 : ¬ 1 < (x_tk c) := fun h => c86 ((g_ltN (a := 1) (b := (x_tk c)) (hx := rfl) (hy := h38) (by omega) (by omega)).mpr h)
                  refine G_iconst (v := 0) C 101 dX7_says_100 rfl rfl ?_
                  refine G_istore (L' := [some (.ref (e_ad E (6 + 4 * t))), some (.int pt), some (.ref (e_ad E (w + 8))), some (.int x64), some (.int i), some (.int x38), some (.int x76), some (.int 0)]) C 103 dX7_says_101 rfl (Nat.le_of_ble_eq_true rfl) rfl rfl ?_
                  refine G_aload_n (i := 0) C 104 dX7_says_103 rfl rfl rfl ?_
                  refine X7_18g C ht 107 dX7_says_104 rfl ?_
                  refine G_iload_n (i := 3) C 108 dX7_says_107 rfl rfl rfl ?_
                  refine G_aload_n (i := 0) C 109 dX7_says_108 rfl rfl rfl ?_
                  refine X7_9g C ht 112 dX7_says_109 rfl ?_
                  refine G_iload C 114 dX7_says_112 rfl rfl ?_
                  refine G_iald (n := 160) C 115 (lT ht (by decide)) (eTs _ _ _ ht) ((x_beg TX t j + k)) Ei (by omega) (by decide) dX7_says_114 rfl (fun x114 ex114 => ?_)
                  have Sx114 : x114 = x_cl c := ex114.trans ((congrFun (fl20 _ (by omega)) _).trans (cT_step hT hj hc))
                  refine G_iload C 117 dX7_says_115 rfl rfl ?_
                  refine G_iload C 119 dX7_says_117 rfl rfl ?_
                  refine G_aload_n (i := 2) C 120 dX7_says_119 rfl rfl rfl ?_
                  refine G_calli 123 (G_runS C Kc_X7_worth KS_X7_29 (by omega) (c_X7_worth 0 w hw c ok x114 x76 0 Sx114 sl20) rfl rfl (Nat.le_of_ble_eq_true rfl) rfl dX7_says_120) rfl (fun x120 s120 h120 => ?_)
                  obtain ⟨es120, h120⟩ := h120
                  have es120 := es120.symm
                  subst es120
                  refine G_iast (n := 160) C 124 (lT ht (by decide)) (fun σ => eTv _ _ σ ht) ((stk.length - x_tk c)) Nx64 (by omega) (by decide) (Nat.le_of_eq (nT3 ht).symm) dX7_says_123 rfl (fun s123 es123 => ?_)
                  have f_1 : Fr (fun q => q = 6 + 4 * t + 3) s s123 := Fr.tr fl20 (Fr.up es123 rfl)
                  refine G_iinc (w := 1) C 127 dX7_says_124 rfl rfl rfl rfl (fun x124 ex124 => ?_)
                  have Nx124 : x124 = nI ((stk.length - x_tk c) + 1) := g_addN ex124 Nx64 rfl
                  show GW SC E _ 127 [some (.ref (e_ad E (6 + 4 * t))), some (.int pt), some (.ref (e_ad E (w + 8))), some (.int x124), some (.int i), some (.int x38), some (.int x76), some (.int 0)] [] s123
                  refine G_iinc (w := 1) C 130 dX7_says_127 rfl rfl rfl rfl (fun x127 ex127 => ?_)
                  have Nx127 : x127 = nI ((x_beg TX t j + k) + 1) := g_addN ex127 Ei rfl
                  show GW SC E _ 130 [some (.ref (e_ad E (6 + 4 * t))), some (.int pt), some (.ref (e_ad E (w + 8))), some (.int x124), some (.int x127), some (.int x38), some (.int x76), some (.int 0)] [] s123
                  refine G_goto C 20 dX7_says_130 rfl ?_
                  refine G_drop (L' := [some (.ref (e_ad E (6 + 4 * t))), some (.int pt), some (.ref (e_ad E (w + 8))), some (.int x124), some (.int x127), none, none, none]) ⟨rfl, rfl, rfl, rfl, rfl, trivial⟩ ?_
                  have hst : x_st (s (w + 8)) c stk = x120 :: stk.drop (x_tk c) := by
                    rw [h120, fl20 _ (by rcases hw with rfl | rfl | rfl <;> omega)]
                    exact x_st_all hs ok htk x76 0 (fun _ => ex76) (fun q => absurd q (by omega))
                  exact ih20 (k + 1) (x120 :: stk.drop (x_tk c)) x124 x127 s123 (g_cn (a := ((stk.length - x_tk c) + 1)) Nx124 (by first | rfl | omega | (simp only [List.length_cons, List.length_drop]; done) | (simp only [List.length_cons, List.length_drop]; omega))) (g_cn (a := ((x_beg TX t j + k) + 1)) Nx127 (by first | rfl | omega | (simp only [List.length_cons, List.length_drop]; done) | (simp only [List.length_cons, List.length_drop]; omega))) (by omega) (by simp only [List.length_cons, List.length_drop]; omega) (by rw [← hst, ← x_ev_drop hc]; exact hev) (by simp only [List.length_cons, List.length_drop]; exact hht2) (by rw [es123]; unfold g_up; rw [g_set_s]; have e9 : (stk.drop (x_tk c)).length = stk.length - x_tk c := List.length_drop; rw [← e9]; exact x_stk_push (x_stk_drop hs)) f_1 (by omega)
                ·
                  have n86 : 1 < (x_tk c) := (g_ltN (a := 1) (b := (x_tk c)) (hx := rfl) (hy := h38) (by omega) (by omega)).mp c86
                  refine G_aload_n (i := 0) C 90 dX7_says_89 rfl rfl rfl ?_
                  refine X7_18g C ht 93 dX7_says_90 rfl ?_
                  refine G_iload_n (i := 3) C 94 dX7_says_93 rfl rfl rfl ?_
                  refine G_iconst (v := 1) C 95 dX7_says_94 rfl rfl ?_
                  refine G_iadd C 96 dX7_says_95 rfl (fun x95 ex95 => ?_)
                  have Nx95 : x95 = nI ((stk.length - x_tk c) + 1) := g_addN ex95 Nx64 rfl
                  refine G_iald (n := 160) C 97 (lT ht (by decide)) (eTv _ _ _ ht) (((stk.length - x_tk c) + 1)) Nx95 (by omega) (by decide) dX7_says_96 rfl (fun x96 ex96 => ?_)
                  refine G_goto C 101 dX7_says_97 rfl ?_
                  refine G_istore (L' := [some (.ref (e_ad E (6 + 4 * t))), some (.int pt), some (.ref (e_ad E (w + 8))), some (.int x64), some (.int i), some (.int x38), some (.int x76), some (.int x96)]) C 103 dX7_says_101 rfl (Nat.le_of_ble_eq_true rfl) rfl rfl ?_
                  refine G_aload_n (i := 0) C 104 dX7_says_103 rfl rfl rfl ?_
                  refine X7_18g C ht 107 dX7_says_104 rfl ?_
                  refine G_iload_n (i := 3) C 108 dX7_says_107 rfl rfl rfl ?_
                  refine G_aload_n (i := 0) C 109 dX7_says_108 rfl rfl rfl ?_
                  refine X7_9g C ht 112 dX7_says_109 rfl ?_
                  refine G_iload C 114 dX7_says_112 rfl rfl ?_
                  refine G_iald (n := 160) C 115 (lT ht (by decide)) (eTs _ _ _ ht) ((x_beg TX t j + k)) Ei (by omega) (by decide) dX7_says_114 rfl (fun x114 ex114 => ?_)
                  have Sx114 : x114 = x_cl c := ex114.trans ((congrFun (fl20 _ (by omega)) _).trans (cT_step hT hj hc))
                  refine G_iload C 117 dX7_says_115 rfl rfl ?_
                  refine G_iload C 119 dX7_says_117 rfl rfl ?_
                  refine G_aload_n (i := 2) C 120 dX7_says_119 rfl rfl rfl ?_
                  refine G_calli 123 (G_runS C Kc_X7_worth KS_X7_29 (by omega) (c_X7_worth 0 w hw c ok x114 x76 x96 Sx114 sl20) rfl rfl (Nat.le_of_ble_eq_true rfl) rfl dX7_says_120) rfl (fun x120 s120 h120 => ?_)
                  obtain ⟨es120, h120⟩ := h120
                  have es120 := es120.symm
                  subst es120
                  refine G_iast (n := 160) C 124 (lT ht (by decide)) (fun σ => eTv _ _ σ ht) ((stk.length - x_tk c)) Nx64 (by omega) (by decide) (Nat.le_of_eq (nT3 ht).symm) dX7_says_123 rfl (fun s123 es123 => ?_)
                  have f_1 : Fr (fun q => q = 6 + 4 * t + 3) s s123 := Fr.tr fl20 (Fr.up es123 rfl)
                  refine G_iinc (w := 1) C 127 dX7_says_124 rfl rfl rfl rfl (fun x124 ex124 => ?_)
                  have Nx124 : x124 = nI ((stk.length - x_tk c) + 1) := g_addN ex124 Nx64 rfl
                  show GW SC E _ 127 [some (.ref (e_ad E (6 + 4 * t))), some (.int pt), some (.ref (e_ad E (w + 8))), some (.int x124), some (.int i), some (.int x38), some (.int x76), some (.int x96)] [] s123
                  refine G_iinc (w := 1) C 130 dX7_says_127 rfl rfl rfl rfl (fun x127 ex127 => ?_)
                  have Nx127 : x127 = nI ((x_beg TX t j + k) + 1) := g_addN ex127 Ei rfl
                  show GW SC E _ 130 [some (.ref (e_ad E (6 + 4 * t))), some (.int pt), some (.ref (e_ad E (w + 8))), some (.int x124), some (.int x127), some (.int x38), some (.int x76), some (.int x96)] [] s123
                  refine G_goto C 20 dX7_says_130 rfl ?_
                  refine G_drop (L' := [some (.ref (e_ad E (6 + 4 * t))), some (.int pt), some (.ref (e_ad E (w + 8))), some (.int x124), some (.int x127), none, none, none]) ⟨rfl, rfl, rfl, rfl, rfl, trivial⟩ ?_
                  have hst : x_st (s (w + 8)) c stk = x120 :: stk.drop (x_tk c) := by
                    rw [h120, fl20 _ (by rcases hw with rfl | rfl | rfl <;> omega)]
                    exact x_st_all hs ok htk x76 x96 (fun _ => ex76) (fun _ => ex96)
                  exact ih20 (k + 1) (x120 :: stk.drop (x_tk c)) x124 x127 s123 (g_cn (a := ((stk.length - x_tk c) + 1)) Nx124 (by first | rfl | omega | (simp only [List.length_cons, List.length_drop]; done) | (simp only [List.length_cons, List.length_drop]; omega))) (g_cn (a := ((x_beg TX t j + k) + 1)) Nx127 (by first | rfl | omega | (simp only [List.length_cons, List.length_drop]; done) | (simp only [List.length_cons, List.length_drop]; omega))) (by omega) (by simp only [List.length_cons, List.length_drop]; omega) (by rw [← hst, ← x_ev_drop hc]; exact hev) (by simp only [List.length_cons, List.length_drop]; exact hht2) (by rw [es123]; unfold g_up; rw [g_set_s]; have e9 : (stk.drop (x_tk c)).length = stk.length - x_tk c := List.length_drop; rw [← e9]; exact x_stk_push (x_stk_drop hs)) f_1 (by omega)
            ·
              have n56 : ¬ (stk.length - x_tk c) < 160 := fun h => c56 ((g_ltN (a := (stk.length - x_tk c)) (b := 160) (hx := Nx52) (hy := rfl) (by omega) (by omega)).mpr h)
              exfalso; omega
    exact L20 ((TX t j).length + 1) 0 [] 0 x17 s (g_cn (a := 0) rfl (by first | rfl | omega)) (g_cn (a := (x_beg TX t j)) Sx17b (by first | rfl | omega)) (by omega) (by simp) (rfl) (hH) (trivial) f (by omega)
  ·
    have n3 : j = 0 := (g_eqN (a := j) (b := 0) (hx := hpt) (hy := rfl) (by omega) (by omega)).mp c3
    have b0 : x_beg TX t j = 0 := by rw [n3]; rfl
    refine G_iconst (v := 0) C 7 dX7_says_6 rfl rfl ?_
    refine G_goto C 18 dX7_says_7 rfl ?_
    refine G_istore (L' := [some (.ref (e_ad E (6 + 4 * t))), some (.int pt), some (.ref (e_ad E (w + 8))), some (.int 0), some (.int 0), none, none, none]) C 20 dX7_says_18 rfl (Nat.le_of_ble_eq_true rfl) rfl rfl ?_
    have L20 : ∀ (f20 : Nat) (k : Nat) (stk : List Int32) (top i : Int32) (sl20 : gS) (Etop : top = nI (stk.length)) (Ei : i = nI ((x_beg TX t j + k))) (hk : k ≤ (TX t j).length) (hl : stk.length ≤ k) (hev : x_ev (s (w + 8)) ((TX t j).drop k) stk = x_ev (s (w + 8)) (TX t j) []) (hht : x_ht ((TX t j).drop k) stk.length = some 1) (hs : x_stk (sl20 (6 + 4 * t + 3)) stk) (fl20 : Fr (fun q => q = 6 + 4 * t + 3) s sl20), (TX t j).length < k + f20 → GW SC E (gFin SC E (gQi SC (fun r s' => Fr (fun q => q = 6 + 4 * t + 3) s s' ∧ r = x_clamp (x_lo j) (x_say (s (w + 8)) (TX t j))))) 20 [some (.ref (e_ad E (6 + 4 * t))), some (.int pt), some (.ref (e_ad E (w + 8))), some (.int top), some (.int i), none, none, none] [] sl20 := by
      intro f20
      induction f20 with
      | zero =>
        intro k stk top i sl20 Etop Ei hk hl hev hht hs fl20 hf20
        exact absurd hf20 (by omega)
      | succ f20 ih20 =>
        intro k stk top i sl20 Etop Ei hk hl hev hht hs fl20 hf20
        refine G_iload C 22 dX7_says_20 rfl rfl ?_
        refine G_aload_n (i := 0) C 23 dX7_says_22 rfl rfl rfl ?_
        refine X7_15g C ht 26 dX7_says_23 rfl ?_
        refine G_iload_n (i := 1) C 27 dX7_says_26 rfl rfl rfl ?_
        refine G_iald (n := 3) C 28 (lT ht (by decide)) (eTe _ _ _ ht) (j) hpt (by omega) (by decide) dX7_says_27 rfl (fun x27 ex27 => ?_)
        have Sx27 : x27 = nI (x_end TX t (j)) := ex27.trans ((congrFun (fl20 _ (by omega)) _).trans (cT_end hT (by omega)))
        refine G_icmp_ge C 133 31 dX7_says_28 rfl rfl (fun c28 => ?_) (fun c28 => ?_)
        ·
          have n28 : ¬ (x_beg TX t j + k) < (x_end TX t (j)) := fun h => c28 ((g_ltN (a := (x_beg TX t j + k)) (b := (x_end TX t (j))) (hx := Ei) (hy := Sx27) (by omega) (by omega)).mpr h)
          refine G_iload_n (i := 1) C 134 dX7_says_133 rfl rfl rfl ?_
          refine G_iconst (v := 2) C 135 dX7_says_134 rfl rfl ?_
          refine G_icmp_ne C 143 138 dX7_says_135 rfl rfl (fun c135 => ?_) (fun c135 => ?_)
          ·
            have n135 : ¬ j = 2 := fun h => c135 ((g_eqN (a := j) (b := 2) (hx := hpt) (hy := rfl) (by omega) (by omega)).mpr h)
            refine G_iconst (v := 0) C 144 dX7_says_143 rfl rfl ?_
            refine G_bipush (v := 99) C 146 dX7_says_144 rfl rfl ?_
            refine G_aload_n (i := 0) C 147 dX7_says_146 rfl rfl rfl ?_
            refine X7_18g C ht 150 dX7_says_147 rfl ?_
            refine G_iconst (v := 0) C 151 dX7_says_150 rfl rfl ?_
            refine G_iald (n := 160) C 152 (lT ht (by decide)) (eTv _ _ _ ht) (0) rfl (by omega) (by decide) dX7_says_151 rfl (fun x151 ex151 => ?_)
            refine G_calli 155 (G_runS C Kc_J9_min_7cf53 KS_X7_33 (by omega) (c_J9_min_7cf53 0 99 x151 sl20) rfl rfl (Nat.le_of_ble_eq_true rfl) rfl dX7_says_152) rfl (fun x152 s152 h152 => ?_)
            obtain ⟨es152, h152⟩ := h152
            have es152 := es152.symm
            subst es152
            refine G_calli 158 (G_runS C Kc_J9_max_7cf53 KS_X7_39 (by omega) (c_J9_max_7cf53 0 0 x152 sl20) rfl rfl (Nat.le_of_ble_eq_true rfl) rfl dX7_says_155) rfl (fun x155 s155 h155 => ?_)
            obtain ⟨es155, h155⟩ := h155
            have es155 := es155.symm
            subst es155
            exact G_iret C dX7_says_158 (⟨fl20, by
                have e0 : (TX t j).drop k = [] := List.drop_eq_nil_of_le (by omega)
                rw [e0] at hev hht
                have e1 : stk.length = 1 := Option.some.inj hht
                obtain ⟨a, rfl⟩ := List.length_eq_one_iff.mp e1
                have e2 : x_say (s (w + 8)) (TX t j) = a := by
                  unfold x_say
                  rw [← hev]
                  rfl
                have e3 : x151 = a := ex151.trans hs.1
                have e4 : x_lo j = (0 : Int32) := if_neg n135
                rw [e2, e4, ← x_clampM (Or.inr rfl), h155, h152, e3]⟩)
          ·
            have n135 : j = 2 := (g_eqN (a := j) (b := 2) (hx := hpt) (hy := rfl) (by omega) (by omega)).mp c135
            refine G_bipush (v := (-99)) C 140 dX7_says_138 rfl rfl ?_
            refine G_goto C 144 dX7_says_140 rfl ?_
            refine G_bipush (v := 99) C 146 dX7_says_144 rfl rfl ?_
            refine G_aload_n (i := 0) C 147 dX7_says_146 rfl rfl rfl ?_
            refine X7_18g C ht 150 dX7_says_147 rfl ?_
            refine G_iconst (v := 0) C 151 dX7_says_150 rfl rfl ?_
            refine G_iald (n := 160) C 152 (lT ht (by decide)) (eTv _ _ _ ht) (0) rfl (by omega) (by decide) dX7_says_151 rfl (fun x151 ex151 => ?_)
            refine G_calli 155 (G_runS C Kc_J9_min_7cf53 KS_X7_33 (by omega) (c_J9_min_7cf53 0 99 x151 sl20) rfl rfl (Nat.le_of_ble_eq_true rfl) rfl dX7_says_152) rfl (fun x152 s152 h152 => ?_)
            obtain ⟨es152, h152⟩ := h152
            have es152 := es152.symm
            subst es152
            refine G_calli 158 (G_runS C Kc_J9_max_7cf53 KS_X7_39 (by omega) (c_J9_max_7cf53 0 (-99) x152 sl20) rfl rfl (Nat.le_of_ble_eq_true rfl) rfl dX7_says_155) rfl (fun x155 s155 h155 => ?_)
            obtain ⟨es155, h155⟩ := h155
            have es155 := es155.symm
            subst es155
            exact G_iret C dX7_says_158 (⟨fl20, by
                have e0 : (TX t j).drop k = [] := List.drop_eq_nil_of_le (by omega)
                rw [e0] at hev hht
                have e1 : stk.length = 1 := Option.some.inj hht
                obtain ⟨a, rfl⟩ := List.length_eq_one_iff.mp e1
                have e2 : x_say (s (w + 8)) (TX t j) = a := by
                  unfold x_say
                  rw [← hev]
                  rfl
                have e3 : x151 = a := ex151.trans hs.1
                have e4 : x_lo j = (-99 : Int32) := if_pos n135
                rw [e2, e4, ← x_clampM (Or.inl rfl), h155, h152, e3]⟩)
        ·
          have n28 : (x_beg TX t j + k) < (x_end TX t (j)) := (g_ltN (a := (x_beg TX t j + k)) (b := (x_end TX t (j))) (hx := Ei) (hy := Sx27) (by omega) (by omega)).mp c28
          obtain ⟨c, hc⟩ : ∃ c, (TX t j)[k]? = some c := ⟨_, List.getElem?_eq_getElem (by omega)⟩
          obtain ⟨ok, htk, hht2⟩ := x_ht_drop hc hht
          have htk2 := x_tk2 c
          refine G_aload_n (i := 0) C 32 dX7_says_31 rfl rfl rfl ?_
          refine X7_9g C ht 35 dX7_says_32 rfl ?_
          refine G_iload C 37 dX7_says_35 rfl rfl ?_
          refine G_iald (n := 160) C 38 (lT ht (by decide)) (eTs _ _ _ ht) ((x_beg TX t j + k)) Ei (by omega) (by decide) dX7_says_37 rfl (fun x37 ex37 => ?_)
          have Sx37 : x37 = x_cl c := ex37.trans ((congrFun (fl20 _ (by omega)) _).trans (cT_step hT hj hc))
          refine G_calli 41 (G_runS C Kc_X7_valuesTaken KS_X7_25 (by omega) (c_X7_valuesTaken 0 c ok x37 Sx37 sl20) rfl rfl (Nat.le_of_ble_eq_true rfl) rfl dX7_says_38) rfl (fun x38 s38 h38 => ?_)
          obtain ⟨es38, h38⟩ := h38
          have es38 := es38.symm
          subst es38
          refine G_istore (L' := [some (.ref (e_ad E (6 + 4 * t))), some (.int pt), some (.ref (e_ad E (w + 8))), some (.int top), some (.int i), some (.int x38), none, none]) C 43 dX7_says_41 rfl (Nat.le_of_ble_eq_true rfl) rfl rfl ?_
          refine G_iload_n (i := 3) C 44 dX7_says_43 rfl rfl rfl ?_
          refine G_iload C 46 dX7_says_44 rfl rfl ?_
          refine G_icmp_lt C 59 49 dX7_says_46 rfl rfl (fun c46 => ?_) (fun c46 => ?_)
          ·
            have n46 : stk.length < (x_tk c) := (g_ltN (a := stk.length) (b := (x_tk c)) (hx := Etop) (hy := h38) (by omega) (by omega)).mp c46
            exfalso; omega
          ·
            have n46 : ¬ stk.length < (x_tk c) := fun h => c46 ((g_ltN (a := stk.length) (b := (x_tk c)) (hx := Etop) (hy := h38) (by omega) (by omega)).mpr h)
            refine G_iload_n (i := 3) C 50 dX7_says_49 rfl rfl rfl ?_
            refine G_iload C 52 dX7_says_50 rfl rfl ?_
            refine G_isub C 53 dX7_says_52 rfl (fun x52 ex52 => ?_)
            have Nx52 : x52 = nI (stk.length - x_tk c) := g_subN ex52 Etop h38 htk
            refine G_sipush (v := 160) C 56 dX7_says_53 rfl rfl ?_
            refine G_icmp_lt C 61 59 dX7_says_56 rfl rfl (fun c56 => ?_) (fun c56 => ?_)
            ·
              have n56 : (stk.length - x_tk c) < 160 := (g_ltN (a := (stk.length - x_tk c)) (b := 160) (hx := Nx52) (hy := rfl) (by omega) (by omega)).mp c56
              refine G_iload_n (i := 3) C 62 dX7_says_61 rfl rfl rfl ?_
              refine G_iload C 64 dX7_says_62 rfl rfl ?_
              refine G_isub C 65 dX7_says_64 rfl (fun x64 ex64 => ?_)
              have Nx64 : x64 = nI (stk.length - x_tk c) := g_subN ex64 Etop h38 htk
              refine G_istore_n (i := 3) (L' := [some (.ref (e_ad E (6 + 4 * t))), some (.int pt), some (.ref (e_ad E (w + 8))), some (.int x64), some (.int i), some (.int x38), none, none]) C 66 dX7_says_65 rfl rfl (Nat.le_of_ble_eq_true rfl) rfl rfl ?_
              refine G_iload C 68 dX7_says_66 rfl rfl ?_
              refine G_if_le C 80 71 dX7_says_68 rfl rfl (fun c68 => ?_) (fun c68 => ?_)
              ·
                have n68 : ¬ 0 < (x_tk c) := fun h => c68 ((g_ltN (a := 0) (b := (x_tk c)) (hx := rfl) (hy := h38) (by omega) (by omega)).mpr h)
                refine G_iconst (v := 0) C 81 dX7_says_80 rfl rfl ?_
                refine G_istore (L' := [some (.ref (e_ad E (6 + 4 * t))), some (.int pt), some (.ref (e_ad E (w + 8))), some (.int x64), some (.int i), some (.int x38), some (.int 0), none]) C 83 dX7_says_81 rfl (Nat.le_of_ble_eq_true rfl) rfl rfl ?_
                refine G_iload C 85 dX7_says_83 rfl rfl ?_
                refine G_iconst (v := 1) C 86 dX7_says_85 rfl rfl ?_
                refine G_icmp_le C 100 89 dX7_says_86 rfl rfl (fun c86 => ?_) (fun c86 => ?_)
                ·
                  have n86 : ¬ 1 < (x_tk c) := fun h => c86 ((g_ltN (a := 1) (b := (x_tk c)) (hx := rfl) (hy := h38) (by omega) (by omega)).mpr h)
                  refine G_iconst (v := 0) C 101 dX7_says_100 rfl rfl ?_
                  refine G_istore (L' := [some (.ref (e_ad E (6 + 4 * t))), some (.int pt), some (.ref (e_ad E (w + 8))), some (.int x64), some (.int i), some (.int x38), some (.int 0), some (.int 0)]) C 103 dX7_says_101 rfl (Nat.le_of_ble_eq_true rfl) rfl rfl ?_
                  refine G_aload_n (i := 0) C 104 dX7_says_103 rfl rfl rfl ?_
                  refine X7_18g C ht 107 dX7_says_104 rfl ?_
                  refine G_iload_n (i := 3) C 108 dX7_says_107 rfl rfl rfl ?_
                  refine G_aload_n (i := 0) C 109 dX7_says_108 rfl rfl rfl ?_
                  refine X7_9g C ht 112 dX7_says_109 rfl ?_
                  refine G_iload C 114 dX7_says_112 rfl rfl ?_
                  refine G_iald (n := 160) C 115 (lT ht (by decide)) (eTs _ _ _ ht) ((x_beg TX t j + k)) Ei (by omega) (by decide) dX7_says_114 rfl (fun x114 ex114 => ?_)
                  have Sx114 : x114 = x_cl c := ex114.trans ((congrFun (fl20 _ (by omega)) _).trans (cT_step hT hj hc))
                  refine G_iload C 117 dX7_says_115 rfl rfl ?_
                  refine G_iload C 119 dX7_says_117 rfl rfl ?_
                  refine G_aload_n (i := 2) C 120 dX7_says_119 rfl rfl rfl ?_
                  refine G_calli 123 (G_runS C Kc_X7_worth KS_X7_29 (by omega) (c_X7_worth 0 w hw c ok x114 0 0 Sx114 sl20) rfl rfl (Nat.le_of_ble_eq_true rfl) rfl dX7_says_120) rfl (fun x120 s120 h120 => ?_)
                  obtain ⟨es120, h120⟩ := h120
                  have es120 := es120.symm
                  subst es120
                  refine G_iast (n := 160) C 124 (lT ht (by decide)) (fun σ => eTv _ _ σ ht) ((stk.length - x_tk c)) Nx64 (by omega) (by decide) (Nat.le_of_eq (nT3 ht).symm) dX7_says_123 rfl (fun s123 es123 => ?_)
                  have f_1 : Fr (fun q => q = 6 + 4 * t + 3) s s123 := Fr.tr fl20 (Fr.up es123 rfl)
                  refine G_iinc (w := 1) C 127 dX7_says_124 rfl rfl rfl rfl (fun x124 ex124 => ?_)
                  have Nx124 : x124 = nI ((stk.length - x_tk c) + 1) := g_addN ex124 Nx64 rfl
                  show GW SC E _ 127 [some (.ref (e_ad E (6 + 4 * t))), some (.int pt), some (.ref (e_ad E (w + 8))), some (.int x124), some (.int i), some (.int x38), some (.int 0), some (.int 0)] [] s123
                  refine G_iinc (w := 1) C 130 dX7_says_127 rfl rfl rfl rfl (fun x127 ex127 => ?_)
                  have Nx127 : x127 = nI ((x_beg TX t j + k) + 1) := g_addN ex127 Ei rfl
                  show GW SC E _ 130 [some (.ref (e_ad E (6 + 4 * t))), some (.int pt), some (.ref (e_ad E (w + 8))), some (.int x124), some (.int x127), some (.int x38), some (.int 0), some (.int 0)] [] s123
                  refine G_goto C 20 dX7_says_130 rfl ?_
                  refine G_drop (L' := [some (.ref (e_ad E (6 + 4 * t))), some (.int pt), some (.ref (e_ad E (w + 8))), some (.int x124), some (.int x127), none, none, none]) ⟨rfl, rfl, rfl, rfl, rfl, trivial⟩ ?_
                  have hst : x_st (s (w + 8)) c stk = x120 :: stk.drop (x_tk c) := by
                    rw [h120, fl20 _ (by rcases hw with rfl | rfl | rfl <;> omega)]
                    exact x_st_all hs ok htk 0 0 (fun q => absurd q (by omega)) (fun q => absurd q (by omega))
                  exact ih20 (k + 1) (x120 :: stk.drop (x_tk c)) x124 x127 s123 (g_cn (a := ((stk.length - x_tk c) + 1)) Nx124 (by first | rfl | omega | (simp only [List.length_cons, List.length_drop]; done) | (simp only [List.length_cons, List.length_drop]; omega))) (g_cn (a := ((x_beg TX t j + k) + 1)) Nx127 (by first | rfl | omega | (simp only [List.length_cons, List.length_drop]; done) | (simp only [List.length_cons, List.length_drop]; omega))) (by omega) (by simp only [List.length_cons, List.length_drop]; omega) (by rw [← hst, ← x_ev_drop hc]; exact hev) (by simp only [List.length_cons, List.length_drop]; exact hht2) (by rw [es123]; unfold g_up; rw [g_set_s]; have e9 : (stk.drop (x_tk c)).length = stk.length - x_tk c := List.length_drop; rw [← e9]; exact x_stk_push (x_stk_drop hs)) f_1 (by omega)
                ·
                  have n86 : 1 < (x_tk c) := (g_ltN (a := 1) (b := (x_tk c)) (hx := rfl) (hy := h38) (by omega) (by omega)).mp c86
                  refine G_aload_n (i := 0) C 90 dX7_says_89 rfl rfl rfl ?_
                  refine X7_18g C ht 93 dX7_says_90 rfl ?_
                  refine G_iload_n (i := 3) C 94 dX7_says_93 rfl rfl rfl ?_
                  refine G_iconst (v := 1) C 95 dX7_says_94 rfl rfl ?_
                  refine G_iadd C 96 dX7_says_95 rfl (fun x95 ex95 => ?_)
                  have Nx95 : x95 = nI ((stk.length - x_tk c) + 1) := g_addN ex95 Nx64 rfl
                  refine G_iald (n := 160) C 97 (lT ht (by decide)) (eTv _ _ _ ht) (((stk.length - x_tk c) + 1)) Nx95 (by omega) (by decide) dX7_says_96 rfl (fun x96 ex96 => ?_)
                  refine G_goto C 101 dX7_says_97 rfl ?_
                  refine G_istore (L' := [some (.ref (e_ad E (6 + 4 * t))), some (.int pt), some (.ref (e_ad E (w + 8))), some (.int x64), some (.int i), some (.int x38), some (.int 0), some (.int x96)]) C 103 dX7_says_101 rfl (Nat.le_of_ble_eq_true rfl) rfl rfl ?_
                  refine G_aload_n (i := 0) C 104 dX7_says_103 rfl rfl rfl ?_
                  refine X7_18g C ht 107 dX7_says_104 rfl ?_
                  refine G_iload_n (i := 3) C 108 dX7_says_107 rfl rfl rfl ?_
                  refine G_aload_n (i := 0) C 109 dX7_says_108 rfl rfl rfl ?_
                  refine X7_9g C ht 112 dX7_says_109 rfl ?_
                  refine G_iload C 114 dX7_says_112 rfl rfl ?_
                  refine G_iald (n := 160) C 115 (lT ht (by decide)) (eTs _ _ _ ht) ((x_beg TX t j + k)) Ei (by omega) (by decide) dX7_says_114 rfl (fun x114 ex114 => ?_)
                  have Sx114 : x114 = x_cl c := ex114.trans ((congrFun (fl20 _ (by omega)) _).trans (cT_step hT hj hc))
                  refine G_iload C 117 dX7_says_115 rfl rfl ?_
                  refine G_iload C 119 dX7_says_117 rfl rfl ?_
                  refine G_aload_n (i := 2) C 120 dX7_says_119 rfl rfl rfl ?_
                  refine G_calli 123 (G_runS C Kc_X7_worth KS_X7_29 (by omega) (c_X7_worth 0 w hw c ok x114 0 x96 Sx114 sl20) rfl rfl (Nat.le_of_ble_eq_true rfl) rfl dX7_says_120) rfl (fun x120 s120 h120 => ?_)
                  obtain ⟨es120, h120⟩ := h120
                  have es120 := es120.symm
                  subst es120
                  refine G_iast (n := 160) C 124 (lT ht (by decide)) (fun σ => eTv _ _ σ ht) ((stk.length - x_tk c)) Nx64 (by omega) (by decide) (Nat.le_of_eq (nT3 ht).symm) dX7_says_123 rfl (fun s123 es123 => ?_)
                  have f_1 : Fr (fun q => q = 6 + 4 * t + 3) s s123 := Fr.tr fl20 (Fr.up es123 rfl)
                  refine G_iinc (w := 1) C 127 dX7_says_124 rfl rfl rfl rfl (fun x124 ex124 => ?_)
                  have Nx124 : x124 = nI ((stk.length - x_tk c) + 1) := g_addN ex124 Nx64 rfl
                  show GW SC E _ 127 [some (.ref (e_ad E (6 + 4 * t))), some (.int pt), some (.ref (e_ad E (w + 8))), some (.int x124), some (.int i), some (.int x38), some (.int 0), some (.int x96)] [] s123
                  refine G_iinc (w := 1) C 130 dX7_says_127 rfl rfl rfl rfl (fun x127 ex127 => ?_)
                  have Nx127 : x127 = nI ((x_beg TX t j + k) + 1) := g_addN ex127 Ei rfl
                  show GW SC E _ 130 [some (.ref (e_ad E (6 + 4 * t))), some (.int pt), some (.ref (e_ad E (w + 8))), some (.int x124), some (.int x127), some (.int x38), some (.int 0), some (.int x96)] [] s123
                  refine G_goto C 20 dX7_says_130 rfl ?_
                  refine G_drop (L' := [some (.ref (e_ad E (6 + 4 * t))), some (.int pt), some (.ref (e_ad E (w + 8))), some (.int x124), some (.int x127), none, none, none]) ⟨rfl, rfl, rfl, rfl, rfl, trivial⟩ ?_
                  have hst : x_st (s (w + 8)) c stk = x120 :: stk.drop (x_tk c) := by
                    rw [h120, fl20 _ (by rcases hw with rfl | rfl | rfl <;> omega)]
                    exact x_st_all hs ok htk 0 x96 (fun q => absurd q (by omega)) (fun _ => ex96)
                  exact ih20 (k + 1) (x120 :: stk.drop (x_tk c)) x124 x127 s123 (g_cn (a := ((stk.length - x_tk c) + 1)) Nx124 (by first | rfl | omega | (simp only [List.length_cons, List.length_drop]; done) | (simp only [List.length_cons, List.length_drop]; omega))) (g_cn (a := ((x_beg TX t j + k) + 1)) Nx127 (by first | rfl | omega | (simp only [List.length_cons, List.length_drop]; done) | (simp only [List.length_cons, List.length_drop]; omega))) (by omega) (by simp only [List.length_cons, List.length_drop]; omega) (by rw [← hst, ← x_ev_drop hc]; exact hev) (by simp only [List.length_cons, List.length_drop]; exact hht2) (by rw [es123]; unfold g_up; rw [g_set_s]; have e9 : (stk.drop (x_tk c)).length = stk.length - x_tk c := List.length_drop; rw [← e9]; exact x_stk_push (x_stk_drop hs)) f_1 (by omega)
              ·
                have n68 : 0 < (x_tk c) := (g_ltN (a := 0) (b := (x_tk c)) (hx := rfl) (hy := h38) (by omega) (by omega)).mp c68
                refine G_aload_n (i := 0) C 72 dX7_says_71 rfl rfl rfl ?_
                refine X7_18g C ht 75 dX7_says_72 rfl ?_
                refine G_iload_n (i := 3) C 76 dX7_says_75 rfl rfl rfl ?_
                refine G_iald (n := 160) C 77 (lT ht (by decide)) (eTv _ _ _ ht) ((stk.length - x_tk c)) Nx64 (by omega) (by decide) dX7_says_76 rfl (fun x76 ex76 => ?_)
                refine G_goto C 81 dX7_says_77 rfl ?_
                refine G_istore (L' := [some (.ref (e_ad E (6 + 4 * t))), some (.int pt), some (.ref (e_ad E (w + 8))), some (.int x64), some (.int i), some (.int x38), some (.int x76), none]) C 83 dX7_says_81 rfl (Nat.le_of_ble_eq_true rfl) rfl rfl ?_
                refine G_iload C 85 dX7_says_83 rfl rfl ?_
                refine G_iconst (v := 1) C 86 dX7_says_85 rfl rfl ?_
                refine G_icmp_le C 100 89 dX7_says_86 rfl rfl (fun c86 => ?_) (fun c86 => ?_)
                ·
                  have n86 : ¬ 1 < (x_tk c) := fun h => c86 ((g_ltN (a := 1) (b := (x_tk c)) (hx := rfl) (hy := h38) (by omega) (by omega)).mpr h)
                  refine G_iconst (v := 0) C 101 dX7_says_100 rfl rfl ?_
                  refine G_istore (L' := [some (.ref (e_ad E (6 + 4 * t))), some (.int pt), some (.ref (e_ad E (w + 8))), some (.int x64), some (.int i), some (.int x38), some (.int x76), some (.int 0)]) C 103 dX7_says_101 rfl (Nat.le_of_ble_eq_true rfl) rfl rfl ?_
                  refine G_aload_n (i := 0) C 104 dX7_says_103 rfl rfl rfl ?_
                  refine X7_18g C ht 107 dX7_says_104 rfl ?_
                  refine G_iload_n (i := 3) C 108 dX7_says_107 rfl rfl rfl ?_
                  refine G_aload_n (i := 0) C 109 dX7_says_108 rfl rfl rfl ?_
                  refine X7_9g C ht 112 dX7_says_109 rfl ?_
                  refine G_iload C 114 dX7_says_112 rfl rfl ?_
                  refine G_iald (n := 160) C 115 (lT ht (by decide)) (eTs _ _ _ ht) ((x_beg TX t j + k)) Ei (by omega) (by decide) dX7_says_114 rfl (fun x114 ex114 => ?_)
                  have Sx114 : x114 = x_cl c := ex114.trans ((congrFun (fl20 _ (by omega)) _).trans (cT_step hT hj hc))
                  refine G_iload C 117 dX7_says_115 rfl rfl ?_
                  refine G_iload C 119 dX7_says_117 rfl rfl ?_
                  refine G_aload_n (i := 2) C 120 dX7_says_119 rfl rfl rfl ?_
                  refine G_calli 123 (G_runS C Kc_X7_worth KS_X7_29 (by omega) (c_X7_worth 0 w hw c ok x114 x76 0 Sx114 sl20) rfl rfl (Nat.le_of_ble_eq_true rfl) rfl dX7_says_120) rfl (fun x120 s120 h120 => ?_)
                  obtain ⟨es120, h120⟩ := h120
                  have es120 := es120.symm
                  subst es120
                  refine G_iast (n := 160) C 124 (lT ht (by decide)) (fun σ => eTv _ _ σ ht) ((stk.length - x_tk c)) Nx64 (by omega) (by decide) (Nat.le_of_eq (nT3 ht).symm) dX7_says_123 rfl (fun s123 es123 => ?_)
                  have f_1 : Fr (fun q => q = 6 + 4 * t + 3) s s123 := Fr.tr fl20 (Fr.up es123 rfl)
                  refine G_iinc (w := 1) C 127 dX7_says_124 rfl rfl rfl rfl (fun x124 ex124 => ?_)
                  have Nx124 : x124 = nI ((stk.length - x_tk c) + 1) := g_addN ex124 Nx64 rfl
                  show GW SC E _ 127 [some (.ref (e_ad E (6 + 4 * t))), some (.int pt), some (.ref (e_ad E (w + 8))), some (.int x124), some (.int i), some (.int x38), some (.int x76), some (.int 0)] [] s123
                  refine G_iinc (w := 1) C 130 dX7_says_127 rfl rfl rfl rfl (fun x127 ex127 => ?_)
                  have Nx127 : x127 = nI ((x_beg TX t j + k) + 1) := g_addN ex127 Ei rfl
                  show GW SC E _ 130 [some (.ref (e_ad E (6 + 4 * t))), some (.int pt), some (.ref (e_ad E (w + 8))), some (.int x124), some (.int x127), some (.int x38), some (.int x76), some (.int 0)] [] s123
                  refine G_goto C 20 dX7_says_130 rfl ?_
                  refine G_drop (L' := [some (.ref (e_ad E (6 + 4 * t))), some (.int pt), some (.ref (e_ad E (w + 8))), some (.int x124), some (.int x127), none, none, none]) ⟨rfl, rfl, rfl, rfl, rfl, trivial⟩ ?_
                  have hst : x_st (s (w + 8)) c stk = x120 :: stk.drop (x_tk c) := by
                    rw [h120, fl20 _ (by rcases hw with rfl | rfl | rfl <;> omega)]
                    exact x_st_all hs ok htk x76 0 (fun _ => ex76) (fun q => absurd q (by omega))
                  exact ih20 (k + 1) (x120 :: stk.drop (x_tk c)) x124 x127 s123 (g_cn (a := ((stk.length - x_tk c) + 1)) Nx124 (by first | rfl | omega | (simp only [List.length_cons, List.length_drop]; done) | (simp only [List.length_cons, List.length_drop]; omega))) (g_cn (a := ((x_beg TX t j + k) + 1)) Nx127 (by first | rfl | omega | (simp only [List.length_cons, List.length_drop]; done) | (simp only [List.length_cons, List.length_drop]; omega))) (by omega) (by simp only [List.length_cons, List.length_drop]; omega) (by rw [← hst, ← x_ev_drop hc]; exact hev) (by simp only [List.length_cons, List.length_drop]; exact hht2) (by rw [es123]; unfold g_up; rw [g_set_s]; have e9 : (stk.drop (x_tk c)).length = stk.length - x_tk c := List.length_drop; rw [← e9]; exact x_stk_push (x_stk_drop hs)) f_1 (by omega)
                ·
                  have n86 : 1 < (x_tk c) := (g_ltN (a := 1) (b := (x_tk c)) (hx := rfl) (hy := h38) (by omega) (by omega)).mp c86
                  refine G_aload_n (i := 0) C 90 dX7_says_89 rfl rfl rfl ?_
                  refine X7_18g C ht 93 dX7_says_90 rfl ?_
                  refine G_iload_n (i := 3) C 94 dX7_says_93 rfl rfl rfl ?_
                  refine G_iconst (v := 1) C 95 dX7_says_94 rfl rfl ?_
                  refine G_iadd C 96 dX7_says_95 rfl (fun x95 ex95 => ?_)
                  have Nx95 : x95 = nI ((stk.length - x_tk c) + 1) := g_addN ex95 Nx64 rfl
                  refine G_iald (n := 160) C 97 (lT ht (by decide)) (eTv _ _ _ ht) (((stk.length - x_tk c) + 1)) Nx95 (by omega) (by decide) dX7_says_96 rfl (fun x96 ex96 => ?_)
                  refine G_goto C 101 dX7_says_97 rfl ?_
                  refine G_istore (L' := [some (.ref (e_ad E (6 + 4 * t))), some (.int pt), some (.ref (e_ad E (w + 8))), some (.int x64), some (.int i), some (.int x38), some (.int x76), some (.int x96)]) C 103 dX7_says_101 rfl (Nat.le_of_ble_eq_true rfl) rfl rfl ?_
                  refine G_aload_n (i := 0) C 104 dX7_says_103 rfl rfl rfl ?_
                  refine X7_18g C ht 107 dX7_says_104 rfl ?_
                  refine G_iload_n (i := 3) C 108 dX7_says_107 rfl rfl rfl ?_
                  refine G_aload_n (i := 0) C 109 dX7_says_108 rfl rfl rfl ?_
                  refine X7_9g C ht 112 dX7_says_109 rfl ?_
                  refine G_iload C 114 dX7_says_112 rfl rfl ?_
                  refine G_iald (n := 160) C 115 (lT ht (by decide)) (eTs _ _ _ ht) ((x_beg TX t j + k)) Ei (by omega) (by decide) dX7_says_114 rfl (fun x114 ex114 => ?_)
                  have Sx114 : x114 = x_cl c := ex114.trans ((congrFun (fl20 _ (by omega)) _).trans (cT_step hT hj hc))
                  refine G_iload C 117 dX7_says_115 rfl rfl ?_
                  refine G_iload C 119 dX7_says_117 rfl rfl ?_
                  refine G_aload_n (i := 2) C 120 dX7_says_119 rfl rfl rfl ?_
                  refine G_calli 123 (G_runS C Kc_X7_worth KS_X7_29 (by omega) (c_X7_worth 0 w hw c ok x114 x76 x96 Sx114 sl20) rfl rfl (Nat.le_of_ble_eq_true rfl) rfl dX7_says_120) rfl (fun x120 s120 h120 => ?_)
                  obtain ⟨es120, h120⟩ := h120
                  have es120 := es120.symm
                  subst es120
                  refine G_iast (n := 160) C 124 (lT ht (by decide)) (fun σ => eTv _ _ σ ht) ((stk.length - x_tk c)) Nx64 (by omega) (by decide) (Nat.le_of_eq (nT3 ht).symm) dX7_says_123 rfl (fun s123 es123 => ?_)
                  have f_1 : Fr (fun q => q = 6 + 4 * t + 3) s s123 := Fr.tr fl20 (Fr.up es123 rfl)
                  refine G_iinc (w := 1) C 127 dX7_says_124 rfl rfl rfl rfl (fun x124 ex124 => ?_)
                  have Nx124 : x124 = nI ((stk.length - x_tk c) + 1) := g_addN ex124 Nx64 rfl
                  show GW SC E _ 127 [some (.ref (e_ad E (6 + 4 * t))), some (.int pt), some (.ref (e_ad E (w + 8))), some (.int x124), some (.int i), some (.int x38), some (.int x76), some (.int x96)] [] s123
                  refine G_iinc (w := 1) C 130 dX7_says_127 rfl rfl rfl rfl (fun x127 ex127 => ?_)
                  have Nx127 : x127 = nI ((x_beg TX t j + k) + 1) := g_addN ex127 Ei rfl
                  show GW SC E _ 130 [some (.ref (e_ad E (6 + 4 * t))), some (.int pt), some (.ref (e_ad E (w + 8))), some (.int x124), some (.int x127), some (.int x38), some (.int x76), some (.int x96)] [] s123
                  refine G_goto C 20 dX7_says_130 rfl ?_
                  refine G_drop (L' := [some (.ref (e_ad E (6 + 4 * t))), some (.int pt), some (.ref (e_ad E (w + 8))), some (.int x124), some (.int x127), none, none, none]) ⟨rfl, rfl, rfl, rfl, rfl, trivial⟩ ?_
                  have hst : x_st (s (w + 8)) c stk = x120 :: stk.drop (x_tk c) := by
                    rw [h120, fl20 _ (by rcases hw with rfl | rfl | rfl <;> omega)]
                    exact x_st_all hs ok htk x76 x96 (fun _ => ex76) (fun _ => ex96)
                  exact ih20 (k + 1) (x120 :: stk.drop (x_tk c)) x124 x127 s123 (g_cn (a := ((stk.length - x_tk c) + 1)) Nx124 (by first | rfl | omega | (simp only [List.length_cons, List.length_drop]; done) | (simp only [List.length_cons, List.length_drop]; omega))) (g_cn (a := ((x_beg TX t j + k) + 1)) Nx127 (by first | rfl | omega | (simp only [List.length_cons, List.length_drop]; done) | (simp only [List.length_cons, List.length_drop]; omega))) (by omega) (by simp only [List.length_cons, List.length_drop]; omega) (by rw [← hst, ← x_ev_drop hc]; exact hev) (by simp only [List.length_cons, List.length_drop]; exact hht2) (by rw [es123]; unfold g_up; rw [g_set_s]; have e9 : (stk.drop (x_tk c)).length = stk.length - x_tk c := List.length_drop; rw [← e9]; exact x_stk_push (x_stk_drop hs)) f_1 (by omega)
            ·
              have n56 : ¬ (stk.length - x_tk c) < 160 := fun h => c56 ((g_ltN (a := (stk.length - x_tk c)) (b := 160) (hx := Nx52) (hy := rfl) (by omega) (by omega)).mpr h)
              exfalso; omega
    exact L20 ((TX t j).length + 1) 0 [] 0 0 s (g_cn (a := 0) rfl (by first | rfl | omega)) (g_cn (a := 0) rfl (by first | rfl | omega)) (by omega) (by simp) (rfl) (hH) (trivial) f (by omega)
