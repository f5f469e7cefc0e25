theorem dJ3_checkIndex_8e157_0 : decode cJ3_checkIndex_8e157 0 = .ok (.iload_n 0, 1) := by decide +kernel
theorem dJ3_checkIndex_8e157_1 : decode cJ3_checkIndex_8e157 1 = .ok (.ifCond .lt 8, 3) := by decide +kernel
theorem dJ3_checkIndex_8e157_4 : decode cJ3_checkIndex_8e157 4 = .ok (.iload_n 0, 1) := by decide +kernel
theorem dJ3_checkIndex_8e157_5 : decode cJ3_checkIndex_8e157 5 = .ok (.iload_n 1, 1) := by decide +kernel
theorem dJ3_checkIndex_8e157_6 : decode cJ3_checkIndex_8e157 6 = .ok (.if_icmp .lt 10, 3) := by decide +kernel
theorem dJ3_checkIndex_8e157_9 : decode cJ3_checkIndex_8e157 9 = .ok (.aload_n 2, 1) := by decide +kernel
theorem dJ3_checkIndex_8e157_10 : decode cJ3_checkIndex_8e157 10 = .ok (.iload_n 0, 1) := by decide +kernel
theorem dJ3_checkIndex_8e157_11 : decode cJ3_checkIndex_8e157 11 = .ok (.iload_n 1, 1) := by decide +kernel
theorem dJ3_checkIndex_8e157_12 : decode cJ3_checkIndex_8e157 12 = .ok (.invokestatic 95, 3) := by decide +kernel
theorem dJ3_checkIndex_8e157_15 : decode cJ3_checkIndex_8e157 15 = .ok (.athrow, 1) := by decide +kernel
theorem dJ3_checkIndex_8e157_16 : decode cJ3_checkIndex_8e157 16 = .ok (.iload_n 0, 1) := by decide +kernel
theorem dJ3_checkIndex_8e157_17 : decode cJ3_checkIndex_8e157 17 = .ok (.ireturn, 1) := by decide +kernel
theorem dJ0_checkIndex_df160_0 : decode cJ0_checkIndex_df160 0 = .ok (.iload_n 0, 1) := by decide +kernel
theorem dJ0_checkIndex_df160_1 : decode cJ0_checkIndex_df160 1 = .ok (.iload_n 1, 1) := by decide +kernel
theorem dJ0_checkIndex_df160_2 : decode cJ0_checkIndex_df160 2 = .ok (.getstatic 1053, 3) := by decide +kernel
theorem dJ0_checkIndex_df160_5 : decode cJ0_checkIndex_df160 5 = .ok (.invokestatic 1059, 3) := by decide +kernel
theorem dJ0_checkIndex_df160_8 : decode cJ0_checkIndex_df160 8 = .ok (.pop, 1) := by decide +kernel
theorem dJ0_checkIndex_df160_9 : decode cJ0_checkIndex_df160 9 = .ok (.return_, 1) := by decide +kernel
theorem dJ1_charAt_3b067_0 : decode cJ1_charAt_3b067 0 = .ok (.iload_n 1, 1) := by decide +kernel
theorem dJ1_charAt_3b067_1 : decode cJ1_charAt_3b067 1 = .ok (.aload_n 0, 1) := by decide +kernel
theorem dJ1_charAt_3b067_2 : decode cJ1_charAt_3b067 2 = .ok (.arraylength, 1) := by decide +kernel
theorem dJ1_charAt_3b067_3 : decode cJ1_charAt_3b067 3 = .ok (.invokestatic 9, 3) := by decide +kernel
theorem dJ1_charAt_3b067_6 : decode cJ1_charAt_3b067 6 = .ok (.aload_n 0, 1) := by decide +kernel
theorem dJ1_charAt_3b067_7 : decode cJ1_charAt_3b067 7 = .ok (.iload_n 1, 1) := by decide +kernel
theorem dJ1_charAt_3b067_8 : decode cJ1_charAt_3b067 8 = .ok (.baload, 1) := by decide +kernel
theorem dJ1_charAt_3b067_9 : decode cJ1_charAt_3b067 9 = .ok (.sipush 255, 3) := by decide +kernel
theorem dJ1_charAt_3b067_12 : decode cJ1_charAt_3b067 12 = .ok (.iand, 1) := by decide +kernel
theorem dJ1_charAt_3b067_13 : decode cJ1_charAt_3b067 13 = .ok (.i2c, 1) := by decide +kernel
theorem dJ1_charAt_3b067_14 : decode cJ1_charAt_3b067 14 = .ok (.ireturn, 1) := by decide +kernel
theorem dJ0_charAt_5068e_0 : decode cJ0_charAt_5068e 0 = .ok (.aload_n 0, 1) := by decide +kernel
theorem dJ0_charAt_5068e_1 : decode cJ0_charAt_5068e 1 = .ok (.invokevirtual 492, 3) := by decide +kernel
theorem dJ0_charAt_5068e_4 : decode cJ0_charAt_5068e 4 = .ok (.ifCond .eq 12, 3) := by decide +kernel
theorem dJ0_charAt_5068e_7 : decode cJ0_charAt_5068e 7 = .ok (.aload_n 0, 1) := by decide +kernel
theorem dJ0_charAt_5068e_8 : decode cJ0_charAt_5068e 8 = .ok (.getfield 9, 3) := by decide +kernel
theorem dJ0_charAt_5068e_11 : decode cJ0_charAt_5068e 11 = .ok (.iload_n 1, 1) := by decide +kernel
theorem dJ0_charAt_5068e_12 : decode cJ0_charAt_5068e 12 = .ok (.invokestatic 495, 3) := by decide +kernel
theorem dJ0_charAt_5068e_15 : decode cJ0_charAt_5068e 15 = .ok (.ireturn, 1) := by decide +kernel
theorem dJ0_charAt_5068e_16 : decode cJ0_charAt_5068e 16 = .ok (.aload_n 0, 1) := by decide +kernel
theorem dJ0_charAt_5068e_17 : decode cJ0_charAt_5068e 17 = .ok (.getfield 9, 3) := by decide +kernel
theorem dJ0_charAt_5068e_20 : decode cJ0_charAt_5068e 20 = .ok (.iload_n 1, 1) := by decide +kernel
theorem dJ0_charAt_5068e_21 : decode cJ0_charAt_5068e 21 = .ok (.invokestatic 498, 3) := by decide +kernel
theorem dJ0_charAt_5068e_24 : decode cJ0_charAt_5068e 24 = .ok (.ireturn, 1) := by decide +kernel
theorem dJ1_canEncode_9a6ad_0 : decode cJ1_canEncode_9a6ad 0 = .ok (.iload_n 0, 1) := by decide +kernel
theorem dJ1_canEncode_9a6ad_1 : decode cJ1_canEncode_9a6ad 1 = .ok (.ifCond .lt 14, 3) := by decide +kernel
theorem dJ1_canEncode_9a6ad_4 : decode cJ1_canEncode_9a6ad 4 = .ok (.iload_n 0, 1) := by decide +kernel
theorem dJ1_canEncode_9a6ad_5 : decode cJ1_canEncode_9a6ad 5 = .ok (.sipush 255, 3) := by decide +kernel
theorem dJ1_canEncode_9a6ad_8 : decode cJ1_canEncode_9a6ad 8 = .ok (.if_icmp .gt 7, 3) := by decide +kernel
theorem dJ1_canEncode_9a6ad_11 : decode cJ1_canEncode_9a6ad 11 = .ok (.iconst 1, 1) := by decide +kernel
theorem dJ1_canEncode_9a6ad_12 : decode cJ1_canEncode_9a6ad 12 = .ok (.goto 4, 3) := by decide +kernel
theorem dJ1_canEncode_9a6ad_15 : decode cJ1_canEncode_9a6ad 15 = .ok (.iconst 0, 1) := by decide +kernel
theorem dJ1_canEncode_9a6ad_16 : decode cJ1_canEncode_9a6ad 16 = .ok (.ireturn, 1) := by decide +kernel
def s_b (i j : Nat) : Int32 := (sByt.getD i []).getD j 0
theorem s_len_le {i : Nat} (hi : i < 3) : sLen.getD i 0 ≤ 64 := by
  have : i = 0 ∨ i = 1 ∨ i = 2 := by omega
  rcases this with rfl | rfl | rfl <;> decide
theorem s_b_c : ∀ i, i < 3 → ∀ j, j < 64 → ((s_b i j &&& 255).toUInt32 % 65536).toInt32 = s_b i j := by decide +kernel
theorem s_b_n : ∀ i, i < 3 → ∀ j, j < 64 → narrow .char (.int (s_b i j)) = .int (s_b i j) := by decide +kernel
theorem c_J3_checkIndex (d k n : Nat) (a b : Int32) (ha : a = nI k) (hb : b = nI n) (hk : k < n) (hn : n < 2147483648) (w : Value) (hw : w = .null ∨ ∃ t : Nat, w = .ref t) (s : gS) : gMt SC yJ3_checkIndex_8e157 cJ3_checkIndex_8e157 3 (some .int) (d + 1) (fun _ => [.int a, .int b, w]) s (gQi SC (fun r s' => s' = s)) := by
  have h0 : ¬ a < 0 := by
    rw [ha, show (0 : Int32) = nI 0 from rfl, nI_ltI (by omega) (by decide)]
    omega
  have h1 : a < b := by
    rw [ha, hb, nI_ltI (by omega) hn]
    exact hk
  have hL : gl [some (.int a), some (.int b), some w] 0 = lv_args 0 [.int a, .int b, w] := by
    rcases hw with rfl | ⟨t, rfl⟩ <;> rfl
  have hl : (lg_sl [.int a, .int b, w]).length ≤ 3 := by
    rcases hw with rfl | ⟨t, rfl⟩ <;> exact Nat.le_of_ble_eq_true rfl
  refine gMt_of SC_ok (by decide +kernel) (fun _ => [some (.int a), some (.int b), some w]) (fun _ => hL) (fun _ => rfl) (fun _ => hl) (fun E C0 => ?_)
  have C : gCx SC E RJ3 cJ3_checkIndex_8e157 3 (some .int) (d + 1) := C0
  refine G_iload_n (i := 0) C 1 dJ3_checkIndex_8e157_0 rfl rfl rfl ?_
  refine G_if_lt C 9 4 dJ3_checkIndex_8e157_1 rfl rfl (fun c => absurd c h0) (fun _ => ?_)
  refine G_iload_n (i := 0) C 5 dJ3_checkIndex_8e157_4 rfl rfl rfl ?_
  refine G_iload_n (i := 1) C 6 dJ3_checkIndex_8e157_5 rfl rfl rfl ?_
  refine G_icmp_lt C 16 9 dJ3_checkIndex_8e157_6 rfl rfl (fun _ => ?_) (fun c => absurd h1 c)
  refine G_iload_n (i := 0) C 17 dJ3_checkIndex_8e157_16 rfl rfl rfl ?_
  exact G_iret C dJ3_checkIndex_8e157_17 rfl
theorem c_J0_checkIndex (d k n : Nat) (a b : Int32) (ha : a = nI k) (hb : b = nI n) (hk : k < n) (hn : n < 2147483648) (s : gS) : gMt SC yJ0_checkIndex_df160 cJ0_checkIndex_df160 2 none (d + 2) (fun _ => [.int a, .int b]) s (gQv SC (fun s' => s' = s)) := by
  refine gMt_of SC_ok (by decide +kernel) (fun _ => [some (.int a), some (.int b)]) (fun _ => rfl) (fun _ => rfl) (fun _ => Nat.le_of_ble_eq_true rfl) (fun E C0 => ?_)
  have C : gCx SC E RJ0 cJ0_checkIndex_df160 2 none (d + 2) := C0
  refine G_iload_n (i := 0) C 1 dJ0_checkIndex_df160_0 rfl rfl rfl ?_
  refine G_iload_n (i := 1) C 2 dJ0_checkIndex_df160_1 rfl rfl rfl ?_
  refine G_getSI C 5 dJ0_checkIndex_df160_2 rfl (fun v hv => ?_)
  refine G_calli 8 (G_runS C Kc_J3_checkIndex_8e157 KS_J0_1059 (by omega) (c_J3_checkIndex 0 k n a b ha hb hk hn v hv s) rfl rfl (Nat.le_of_ble_eq_true rfl) rfl dJ0_checkIndex_df160_5) rfl (fun x5 s5 h5 => ?_)
  subst h5
  refine G_pop C 9 dJ0_checkIndex_df160_8 rfl rfl ?_
  exact G_vret C dJ0_checkIndex_df160_9 rfl
theorem c_J1_charAt (d i k : Nat) (hi : i < 3) (v : Int32) (hv : v = nI k) (hk : k < sLen.getD i 0) (s : gS) : gMz SC yJ1_charAt_3b067 cJ1_charAt_3b067 2 (some .char) (d + 3) (fun _ z => [.ref (z (i + 3)), .int v]) s (gQi SC (fun r s' => s' = s ∧ r = s_b i k)) := by
  have hle := s_len_le hi
  refine gMz_of SC_ok (by decide +kernel) (fun _ z => [some (.ref (z (i + 3))), some (.int v)]) (fun _ _ => rfl) (fun _ _ => rfl) (fun _ _ => Nat.le_of_ble_eq_true rfl) (fun E C0 => ?_)
  have C : gCx SC E RJ1 cJ1_charAt_3b067 2 (some .char) (d + 3) := C0
  refine G_iload_n (i := 1) C 1 dJ1_charAt_3b067_0 rfl rfl rfl ?_
  refine G_aload_n (i := 0) C 2 dJ1_charAt_3b067_1 rfl rfl rfl ?_
  refine G_slen C 3 hi dJ1_charAt_3b067_2 rfl ?_
  refine G_callv 6 (G_runS C Kc_J0_checkIndex_df160 KS_J1_9 (by omega) (c_J0_checkIndex 0 k (sLen.getD i 0) v _ hv rfl hk (by omega) s) rfl rfl (Nat.le_of_ble_eq_true rfl) rfl dJ1_charAt_3b067_3) rfl (fun s3 h3 => ?_)
  subst h3
  refine G_aload_n (i := 0) C 7 dJ1_charAt_3b067_6 rfl rfl rfl ?_
  refine G_iload_n (i := 1) C 8 dJ1_charAt_3b067_7 rfl rfl rfl ?_
  refine G_sbld C 9 hi k hv hk (by omega) dJ1_charAt_3b067_8 rfl (fun x8 ex8 => ?_)
  refine G_sipush (v := 255) C 12 dJ1_charAt_3b067_9 rfl rfl ?_
  refine G_iand C 13 dJ1_charAt_3b067_12 rfl (fun x12 ex12 => ?_)
  refine G_i2c C 14 dJ1_charAt_3b067_13 rfl (fun x13 ex13 => ?_)
  have e : x13 = s_b i k := by
    rw [ex13, ex12, ex8]
    exact s_b_c i hi k (by omega)
  subst e
  exact G_zret C (s_b_n i hi k (by omega)) dJ1_charAt_3b067_14 ⟨rfl, rfl⟩
theorem c_J0_charAt (d i k : Nat) (hi : i < 3) (v : Int32) (hv : v = nI k) (hk : k < sLen.getD i 0) (s : gS) : gMz SC yJ0_charAt_5068e cJ0_charAt_5068e 2 (some .char) (d + 4) (fun _ z => [.ref (z i), .int v]) s (gQi SC (fun r s' => s' = s ∧ r = s_b i k)) := by
  have hle := s_len_le hi
  refine gMz_of SC_ok (by decide +kernel) (fun _ z => [some (.ref (z i)), some (.int v)]) (fun _ _ => rfl) (fun _ _ => rfl) (fun _ _ => Nat.le_of_ble_eq_true rfl) (fun E C0 => ?_)
  have C : gCx SC E RJ0 cJ0_charAt_5068e 2 (some .char) (d + 4) := C0
  refine G_aload_n (i := 0) C 1 dJ0_charAt_5068e_0 rfl rfl rfl ?_
  refine G_calli 4 (G_runVz C Kc_J0_isLatin1_aae02 KV_J0_492 (by omega) hi rfl (c_J0_isLatin1 0 i hi s) rfl rfl rfl (Nat.le_of_ble_eq_true rfl) rfl dJ0_charAt_5068e_1) rfl (fun x1 s1 h1 => ?_)
  obtain ⟨es1, e1⟩ := h1
  subst es1
  subst e1
  refine G_if_eq C 16 7 dJ0_charAt_5068e_4 rfl rfl (fun c => absurd c (by decide)) (fun _ => ?_)
  refine G_aload_n (i := 0) C 8 dJ0_charAt_5068e_7 rfl rfl rfl ?_
  refine G_strV C 11 hi dJ0_charAt_5068e_8 rfl ?_
  refine G_iload_n (i := 1) C 12 dJ0_charAt_5068e_11 rfl rfl rfl ?_
  refine G_calli 15 (G_runSz C Kc_J1_charAt_3b067 KS_J0_495 (by omega) (c_J1_charAt 0 i k hi v hv hk s1) rfl rfl (Nat.le_of_ble_eq_true rfl) rfl dJ0_charAt_5068e_12) rfl (fun x12 s12 h12 => ?_)
  obtain ⟨es12, e12⟩ := h12
  subst es12
  subst e12
  exact G_zret C (s_b_n i hi k (by omega)) dJ0_charAt_5068e_15 ⟨rfl, rfl⟩
theorem c_J1_canEncode (d m : Nat) (v : Int32) (hv : v = nI m) (hm : m < 256) (s : gS) : gMt SC yJ1_canEncode_9a6ad cJ1_canEncode_9a6ad 1 (some .boolean) (d + 1) (fun _ => [.int v]) s (gQi SC (fun r s' => s' = s ∧ r = 1)) := by
  have h0 : ¬ v < 0 := by
    rw [hv, show (0 : Int32) = nI 0 from rfl, nI_ltI (by omega) (by decide)]
    omega
  have h1 : ¬ 255 < v := by
    rw [hv, show (255 : Int32) = nI 255 from rfl, nI_ltI (by decide) (by omega)]
    omega
  refine gMt_of SC_ok (by decide +kernel) (fun _ => [some (.int v)]) (fun _ => rfl) (fun _ => rfl) (fun _ => Nat.le_of_ble_eq_true rfl) (fun E C0 => ?_)
  have C : gCx SC E RJ1 cJ1_canEncode_9a6ad 1 (some .boolean) (d + 1) := C0
  refine G_iload_n (i := 0) C 1 dJ1_canEncode_9a6ad_0 rfl rfl rfl ?_
  refine G_if_lt C 15 4 dJ1_canEncode_9a6ad_1 rfl rfl (fun c => absurd c h0) (fun _ => ?_)
  refine G_iload_n (i := 0) C 5 dJ1_canEncode_9a6ad_4 rfl rfl rfl ?_
  refine G_sipush (v := 255) C 8 dJ1_canEncode_9a6ad_5 rfl rfl ?_
  refine G_icmp_gt C 15 11 dJ1_canEncode_9a6ad_8 rfl rfl (fun c => absurd c h1) (fun _ => ?_)
  refine G_iconst (v := 1) C 12 dJ1_canEncode_9a6ad_11 rfl rfl ?_
  refine G_goto C 16 dJ1_canEncode_9a6ad_12 rfl ?_
  exact G_zret C rfl dJ1_canEncode_9a6ad_16 ⟨rfl, rfl⟩
