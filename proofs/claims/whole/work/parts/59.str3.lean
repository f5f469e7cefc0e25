theorem dJ1_indexOfChar_4cfef_0 : decode cJ1_indexOfChar_4cfef 0 = .ok (.iload_n 1, 1) := by decide +kernel
theorem dJ1_indexOfChar_4cfef_1 : decode cJ1_indexOfChar_4cfef 1 = .ok (.i2b, 1) := by decide +kernel
theorem dJ1_indexOfChar_4cfef_2 : decode cJ1_indexOfChar_4cfef 2 = .ok (.istore 4, 2) := by decide +kernel
theorem dJ1_indexOfChar_4cfef_4 : decode cJ1_indexOfChar_4cfef 4 = .ok (.iload_n 2, 1) := by decide +kernel
theorem dJ1_indexOfChar_4cfef_5 : decode cJ1_indexOfChar_4cfef 5 = .ok (.istore 5, 2) := by decide +kernel
theorem dJ1_indexOfChar_4cfef_7 : decode cJ1_indexOfChar_4cfef 7 = .ok (.iload 5, 2) := by decide +kernel
theorem dJ1_indexOfChar_4cfef_9 : decode cJ1_indexOfChar_4cfef 9 = .ok (.iload_n 3, 1) := by decide +kernel
theorem dJ1_indexOfChar_4cfef_10 : decode cJ1_indexOfChar_4cfef 10 = .ok (.if_icmp .ge 21, 3) := by decide +kernel
theorem dJ1_indexOfChar_4cfef_13 : decode cJ1_indexOfChar_4cfef 13 = .ok (.aload_n 0, 1) := by decide +kernel
theorem dJ1_indexOfChar_4cfef_14 : decode cJ1_indexOfChar_4cfef 14 = .ok (.iload 5, 2) := by decide +kernel
theorem dJ1_indexOfChar_4cfef_16 : decode cJ1_indexOfChar_4cfef 16 = .ok (.baload, 1) := by decide +kernel
theorem dJ1_indexOfChar_4cfef_17 : decode cJ1_indexOfChar_4cfef 17 = .ok (.iload 4, 2) := by decide +kernel
theorem dJ1_indexOfChar_4cfef_19 : decode cJ1_indexOfChar_4cfef 19 = .ok (.if_icmp .ne 6, 3) := by decide +kernel
theorem dJ1_indexOfChar_4cfef_22 : decode cJ1_indexOfChar_4cfef 22 = .ok (.iload 5, 2) := by decide +kernel
theorem dJ1_indexOfChar_4cfef_24 : decode cJ1_indexOfChar_4cfef 24 = .ok (.ireturn, 1) := by decide +kernel
theorem dJ1_indexOfChar_4cfef_25 : decode cJ1_indexOfChar_4cfef 25 = .ok (.iinc 5 1, 3) := by decide +kernel
theorem dJ1_indexOfChar_4cfef_28 : decode cJ1_indexOfChar_4cfef 28 = .ok (.goto (-21), 3) := by decide +kernel
theorem dJ1_indexOfChar_4cfef_31 : decode cJ1_indexOfChar_4cfef 31 = .ok (.iconst (-1), 1) := by decide +kernel
theorem dJ1_indexOfChar_4cfef_32 : decode cJ1_indexOfChar_4cfef 32 = .ok (.ireturn, 1) := by decide +kernel
theorem dJ1_indexOf_4cfef_0 : decode cJ1_indexOf_4cfef 0 = .ok (.iload_n 1, 1) := by decide +kernel
theorem dJ1_indexOf_4cfef_1 : decode cJ1_indexOf_4cfef 1 = .ok (.invokestatic 88, 3) := by decide +kernel
theorem dJ1_indexOf_4cfef_4 : decode cJ1_indexOf_4cfef 4 = .ok (.ifCond .ne 5, 3) := by decide +kernel
theorem dJ1_indexOf_4cfef_7 : decode cJ1_indexOf_4cfef 7 = .ok (.iconst (-1), 1) := by decide +kernel
theorem dJ1_indexOf_4cfef_8 : decode cJ1_indexOf_4cfef 8 = .ok (.ireturn, 1) := by decide +kernel
theorem dJ1_indexOf_4cfef_9 : decode cJ1_indexOf_4cfef 9 = .ok (.iload_n 2, 1) := by decide +kernel
theorem dJ1_indexOf_4cfef_10 : decode cJ1_indexOf_4cfef 10 = .ok (.iconst 0, 1) := by decide +kernel
theorem dJ1_indexOf_4cfef_11 : decode cJ1_indexOf_4cfef 11 = .ok (.invokestatic 92, 3) := by decide +kernel
theorem dJ1_indexOf_4cfef_14 : decode cJ1_indexOf_4cfef 14 = .ok (.istore_n 2, 1) := by decide +kernel
theorem dJ1_indexOf_4cfef_15 : decode cJ1_indexOf_4cfef 15 = .ok (.iload_n 3, 1) := by decide +kernel
theorem dJ1_indexOf_4cfef_16 : decode cJ1_indexOf_4cfef 16 = .ok (.aload_n 0, 1) := by decide +kernel
theorem dJ1_indexOf_4cfef_17 : decode cJ1_indexOf_4cfef 17 = .ok (.arraylength, 1) := by decide +kernel
theorem dJ1_indexOf_4cfef_18 : decode cJ1_indexOf_4cfef 18 = .ok (.invokestatic 38, 3) := by decide +kernel
theorem dJ1_indexOf_4cfef_21 : decode cJ1_indexOf_4cfef 21 = .ok (.istore_n 3, 1) := by decide +kernel
theorem dJ1_indexOf_4cfef_22 : decode cJ1_indexOf_4cfef 22 = .ok (.iload_n 2, 1) := by decide +kernel
theorem dJ1_indexOf_4cfef_23 : decode cJ1_indexOf_4cfef 23 = .ok (.iload_n 3, 1) := by decide +kernel
theorem dJ1_indexOf_4cfef_24 : decode cJ1_indexOf_4cfef 24 = .ok (.if_icmp .lt 5, 3) := by decide +kernel
theorem dJ1_indexOf_4cfef_27 : decode cJ1_indexOf_4cfef 27 = .ok (.iconst (-1), 1) := by decide +kernel
theorem dJ1_indexOf_4cfef_28 : decode cJ1_indexOf_4cfef 28 = .ok (.ireturn, 1) := by decide +kernel
theorem dJ1_indexOf_4cfef_29 : decode cJ1_indexOf_4cfef 29 = .ok (.aload_n 0, 1) := by decide +kernel
theorem dJ1_indexOf_4cfef_30 : decode cJ1_indexOf_4cfef 30 = .ok (.iload_n 1, 1) := by decide +kernel
theorem dJ1_indexOf_4cfef_31 : decode cJ1_indexOf_4cfef 31 = .ok (.iload_n 2, 1) := by decide +kernel
theorem dJ1_indexOf_4cfef_32 : decode cJ1_indexOf_4cfef 32 = .ok (.iload_n 3, 1) := by decide +kernel
theorem dJ1_indexOf_4cfef_33 : decode cJ1_indexOf_4cfef 33 = .ok (.invokestatic 95, 3) := by decide +kernel
theorem dJ1_indexOf_4cfef_36 : decode cJ1_indexOf_4cfef 36 = .ok (.ireturn, 1) := by decide +kernel
theorem dJ0_indexOf_7cf53_0 : decode cJ0_indexOf_7cf53 0 = .ok (.aload_n 0, 1) := by decide +kernel
theorem dJ0_indexOf_7cf53_1 : decode cJ0_indexOf_7cf53 1 = .ok (.invokevirtual 492, 3) := by decide +kernel
theorem dJ0_indexOf_7cf53_4 : decode cJ0_indexOf_7cf53 4 = .ok (.ifCond .eq 19, 3) := by decide +kernel
theorem dJ0_indexOf_7cf53_7 : decode cJ0_indexOf_7cf53 7 = .ok (.aload_n 0, 1) := by decide +kernel
theorem dJ0_indexOf_7cf53_8 : decode cJ0_indexOf_7cf53 8 = .ok (.getfield 9, 3) := by decide +kernel
theorem dJ0_indexOf_7cf53_11 : decode cJ0_indexOf_7cf53 11 = .ok (.iload_n 1, 1) := by decide +kernel
theorem dJ0_indexOf_7cf53_12 : decode cJ0_indexOf_7cf53 12 = .ok (.iload_n 2, 1) := by decide +kernel
theorem dJ0_indexOf_7cf53_13 : decode cJ0_indexOf_7cf53 13 = .ok (.aload_n 0, 1) := by decide +kernel
theorem dJ0_indexOf_7cf53_14 : decode cJ0_indexOf_7cf53 14 = .ok (.invokevirtual 505, 3) := by decide +kernel
theorem dJ0_indexOf_7cf53_17 : decode cJ0_indexOf_7cf53 17 = .ok (.invokestatic 637, 3) := by decide +kernel
theorem dJ0_indexOf_7cf53_20 : decode cJ0_indexOf_7cf53 20 = .ok (.goto 16, 3) := by decide +kernel
theorem dJ0_indexOf_7cf53_23 : decode cJ0_indexOf_7cf53 23 = .ok (.aload_n 0, 1) := by decide +kernel
theorem dJ0_indexOf_7cf53_24 : decode cJ0_indexOf_7cf53 24 = .ok (.getfield 9, 3) := by decide +kernel
theorem dJ0_indexOf_7cf53_27 : decode cJ0_indexOf_7cf53 27 = .ok (.iload_n 1, 1) := by decide +kernel
theorem dJ0_indexOf_7cf53_28 : decode cJ0_indexOf_7cf53 28 = .ok (.iload_n 2, 1) := by decide +kernel
theorem dJ0_indexOf_7cf53_29 : decode cJ0_indexOf_7cf53 29 = .ok (.aload_n 0, 1) := by decide +kernel
theorem dJ0_indexOf_7cf53_30 : decode cJ0_indexOf_7cf53 30 = .ok (.invokevirtual 505, 3) := by decide +kernel
theorem dJ0_indexOf_7cf53_33 : decode cJ0_indexOf_7cf53 33 = .ok (.invokestatic 640, 3) := by decide +kernel
theorem dJ0_indexOf_7cf53_36 : decode cJ0_indexOf_7cf53 36 = .ok (.ireturn, 1) := by decide +kernel
theorem dJ0_indexOf_0f7a4_0 : decode cJ0_indexOf_0f7a4 0 = .ok (.aload_n 0, 1) := by decide +kernel
theorem dJ0_indexOf_0f7a4_1 : decode cJ0_indexOf_0f7a4 1 = .ok (.iload_n 1, 1) := by decide +kernel
theorem dJ0_indexOf_0f7a4_2 : decode cJ0_indexOf_0f7a4 2 = .ok (.iconst 0, 1) := by decide +kernel
theorem dJ0_indexOf_0f7a4_3 : decode cJ0_indexOf_0f7a4 3 = .ok (.invokevirtual 633, 3) := by decide +kernel
theorem dJ0_indexOf_0f7a4_6 : decode cJ0_indexOf_0f7a4 6 = .ok (.ireturn, 1) := by decide +kernel
theorem s_b8 : ∀ m, m < 256 → (nI m).toInt8.toInt32 = nI m ∨ (¬ m < 128 ∧ (nI m).toInt8.toInt32 < 0) := by decide +kernel
theorem s_b7 : ∀ i, i < 3 → ∀ j, j < 64 → ¬ s_b i j < 0 ∧ s_b i j < 128 := by decide +kernel
theorem s_bq {m i j : Nat} (hm : m < 256) (hi : i < 3) (hj : j < 64) : s_b i j = (nI m).toInt8.toInt32 ↔ s_b i j = nI m := by
  obtain ⟨h1, h2⟩ := s_b7 i hi j hj
  rcases s_b8 m hm with h | ⟨h3, h4⟩
  · rw [h]
  · constructor
    · intro z
      rw [z] at h1
      exact absurd h4 h1
    · intro z
      rw [z, show (128 : Int32) = nI 128 from rfl, nI_ltI (by omega) (by decide)] at h2
      exact absurd h2 h3
theorem c_J1_indexOfChar (d i m n : Nat) (hi : i < 3) (hn : n = sLen.getD i 0) (v a b : Int32) (hv : v = nI m) (hm : m < 256) (ha : a = nI 0) (hb : b = nI n) (s : gS) : gMz SC yJ1_indexOfChar_4cfef cJ1_indexOfChar_4cfef 6 (some .int) (d + 1) (fun _ z => [.ref (z (i + 3)), .int v, .int a, .int b]) s (gQi SC (fun r s' => s' = s ∧ ((r = -1 ∧ ∀ j, j < sLen.getD i 0 → ¬ s_b i j = v) ∨ ∃ j, j < sLen.getD i 0 ∧ r = nI j ∧ s_b i j = v))) := by
  have hle := s_len_le hi
  refine gMz_of SC_ok (by decide +kernel) (fun _ z => [some (.ref (z (i + 3))), some (.int v), some (.int a), some (.int b), none, none]) (fun _ _ => rfl) (fun _ _ => rfl) (fun _ _ => Nat.le_of_ble_eq_true rfl) (fun E C0 => ?_)
  have C : gCx SC E RJ1 cJ1_indexOfChar_4cfef 6 (some .int) (d + 1) := C0
  refine G_iload_n (i := 1) C 1 dJ1_indexOfChar_4cfef_0 rfl rfl rfl ?_
  refine G_i2b C 2 dJ1_indexOfChar_4cfef_1 rfl (fun x1 ex1 => ?_)
  refine G_istore (L' := [some (.ref (e_z E (i + 3))), some (.int v), some (.int a), some (.int b), some (.int x1), none]) C 4 dJ1_indexOfChar_4cfef_2 rfl (Nat.le_of_ble_eq_true rfl) rfl rfl ?_
  refine G_iload_n (i := 2) C 5 dJ1_indexOfChar_4cfef_4 rfl rfl rfl ?_
  refine G_istore (L' := [some (.ref (e_z E (i + 3))), some (.int v), some (.int a), some (.int b), some (.int x1), some (.int a)]) C 7 dJ1_indexOfChar_4cfef_5 rfl (Nat.le_of_ble_eq_true rfl) rfl rfl ?_
  have L7 : ∀ (f k : Nat) (x : Int32), x = nI k → k ≤ n → (∀ j, j < k → ¬ s_b i j = v) → n < k + f → GW SC E (gFin SC E (gQi SC (fun r s' => s' = s ∧ ((r = -1 ∧ ∀ j, j < sLen.getD i 0 → ¬ s_b i j = v) ∨ ∃ j, j < sLen.getD i 0 ∧ r = nI j ∧ s_b i j = v)))) 7 [some (.ref (e_z E (i + 3))), some (.int v), some (.int a), some (.int b), some (.int x1), some (.int x)] [] s := by
    intro f
    induction f with
    | zero => intro k x _ h1 _ h2; exact absurd h2 (by omega)
    | succ f ih =>
      intro k x hx hk hno hf
      refine G_iload C 9 dJ1_indexOfChar_4cfef_7 rfl rfl ?_
      refine G_iload_n (i := 3) C 10 dJ1_indexOfChar_4cfef_9 rfl rfl rfl ?_
      refine G_icmp_ge C 31 13 dJ1_indexOfChar_4cfef_10 rfl rfl (fun c => ?_) (fun c => ?_)
      · have hkn : ¬ k < n := fun z => c (by rw [hx, hb, nI_ltI (by omega) (by omega)]; exact z)
        refine G_iconst (v := (-1)) C 32 dJ1_indexOfChar_4cfef_31 rfl rfl ?_
        exact G_iret C dJ1_indexOfChar_4cfef_32 ⟨rfl, Or.inl ⟨rfl, fun j hj => hno j (by omega)⟩⟩
      · have hkn : k < n := by
          rw [hx, hb, nI_ltI (by omega) (by omega)] at c
          exact c
        refine G_aload_n (i := 0) C 14 dJ1_indexOfChar_4cfef_13 rfl rfl rfl ?_
        refine G_iload C 16 dJ1_indexOfChar_4cfef_14 rfl rfl ?_
        refine G_sbld C 17 hi k hx (by omega) (by omega) dJ1_indexOfChar_4cfef_16 rfl (fun x16 ex16 => ?_)
        have e16 : x16 = s_b i k := ex16
        refine G_iload C 19 dJ1_indexOfChar_4cfef_17 rfl rfl ?_
        refine G_icmp_ne C 25 22 dJ1_indexOfChar_4cfef_19 rfl rfl (fun c2 => ?_) (fun c2 => ?_)
        · refine G_iinc (w := 1) C 28 dJ1_indexOfChar_4cfef_25 rfl rfl rfl rfl (fun x25 ex25 => ?_)
          show GW SC E _ 28 [some (.ref (e_z E (i + 3))), some (.int v), some (.int a), some (.int b), some (.int x1), some (.int x25)] [] s
          refine G_goto C 7 dJ1_indexOfChar_4cfef_28 rfl ?_
          refine ih (k + 1) x25 (g_addN ex25 hx rfl) (by omega) (fun j hj => ?_) (by omega)
          by_cases hjk : j = k
          · intro z
            refine c2 ?_
            rw [e16, ex1, hv]
            rw [hjk, hv] at z
            exact (s_bq hm hi (by omega)).mpr z
          · exact hno j (by omega)
        · refine G_iload C 24 dJ1_indexOfChar_4cfef_22 rfl rfl ?_
          refine G_iret C dJ1_indexOfChar_4cfef_24 ⟨rfl, Or.inr ⟨k, by omega, hx, ?_⟩⟩
          rw [e16, ex1, hv] at c2
          rw [hv]
          exact (s_bq hm hi (by omega)).mp c2
  exact L7 (n + 1) 0 a ha (by omega) (fun j hj => absurd hj (by omega)) (by omega)
theorem c_J1_indexOf (d i m n : Nat) (hi : i < 3) (hn : n = sLen.getD i 0) (hn1 : 0 < n) (v a b : Int32) (hv : v = nI m) (hm : m < 256) (ha : a = nI 0) (hb : b = nI n) (s : gS) : gMz SC yJ1_indexOf_4cfef cJ1_indexOf_4cfef 4 (some .int) (d + 2) (fun _ z => [.ref (z (i + 3)), .int v, .int a, .int b]) s (gQi SC (fun r s' => s' = s ∧ ((r = -1 ∧ ∀ j, j < sLen.getD i 0 → ¬ s_b i j = v) ∨ ∃ j, j < sLen.getD i 0 ∧ r = nI j ∧ s_b i j = v))) := by
  have hle := s_len_le hi
  refine gMz_of SC_ok (by decide +kernel) (fun _ z => [some (.ref (z (i + 3))), some (.int v), some (.int a), some (.int b)]) (fun _ _ => rfl) (fun _ _ => rfl) (fun _ _ => Nat.le_of_ble_eq_true rfl) (fun E C0 => ?_)
  have C : gCx SC E RJ1 cJ1_indexOf_4cfef 4 (some .int) (d + 2) := C0
  refine G_iload_n (i := 1) C 1 dJ1_indexOf_4cfef_0 rfl rfl rfl ?_
  refine G_calli 4 (G_runS C Kc_J1_canEncode_9a6ad KS_J1_88 (by omega) (c_J1_canEncode 0 m v hv hm s) rfl rfl (Nat.le_of_ble_eq_true rfl) rfl dJ1_indexOf_4cfef_1) rfl (fun x1 s1 h1 => ?_)
  obtain ⟨es1, e1⟩ := h1
  subst es1
  subst e1
  refine G_if_ne C 9 7 dJ1_indexOf_4cfef_4 rfl rfl (fun _ => ?_) (fun c => absurd c (by decide))
  refine G_iload_n (i := 2) C 10 dJ1_indexOf_4cfef_9 rfl rfl rfl ?_
  refine G_iconst (v := 0) C 11 dJ1_indexOf_4cfef_10 rfl rfl ?_
  refine G_calli 14 (G_runS C Kc_J9_max_7cf53 KS_J1_92 (by omega) (c_J9_max_7cf53 0 a 0 s1) rfl rfl (Nat.le_of_ble_eq_true rfl) rfl dJ1_indexOf_4cfef_11) rfl (fun x11 s11 h11 => ?_)
  obtain ⟨es11, e11⟩ := h11
  subst es11
  have N11 : x11 = nI 0 := by
    rw [e11, ha]
    decide
  refine G_istore_n (i := 2) (L' := [some (.ref (e_z E (i + 3))), some (.int v), some (.int x11), some (.int b)]) C 15 dJ1_indexOf_4cfef_14 rfl rfl (Nat.le_of_ble_eq_true rfl) rfl rfl ?_
  refine G_iload_n (i := 3) C 16 dJ1_indexOf_4cfef_15 rfl rfl rfl ?_
  refine G_aload_n (i := 0) C 17 dJ1_indexOf_4cfef_16 rfl rfl rfl ?_
  refine G_slen C 18 hi dJ1_indexOf_4cfef_17 rfl ?_
  refine G_calli 21 (G_runS C Kc_J9_min_7cf53 KS_J1_38 (by omega) (c_J9_min_7cf53 0 b (nI (sLen.getD i 0)) s11) rfl rfl (Nat.le_of_ble_eq_true rfl) rfl dJ1_indexOf_4cfef_18) rfl (fun x18 s18 h18 => ?_)
  obtain ⟨es18, e18⟩ := h18
  subst es18
  have N18 : x18 = nI n := by
    rw [e18, hb, ← hn]
    split <;> rfl
  refine G_istore_n (i := 3) (L' := [some (.ref (e_z E (i + 3))), some (.int v), some (.int x11), some (.int x18)]) C 22 dJ1_indexOf_4cfef_21 rfl rfl (Nat.le_of_ble_eq_true rfl) rfl rfl ?_
  refine G_iload_n (i := 2) C 23 dJ1_indexOf_4cfef_22 rfl rfl rfl ?_
  refine G_iload_n (i := 3) C 24 dJ1_indexOf_4cfef_23 rfl rfl rfl ?_
  refine G_icmp_lt C 29 27 dJ1_indexOf_4cfef_24 rfl rfl (fun _ => ?_) (fun c => absurd (show x11 < x18 by rw [N11, N18, nI_ltI (by decide) (by omega)]; exact hn1) c)
  refine G_aload_n (i := 0) C 30 dJ1_indexOf_4cfef_29 rfl rfl rfl ?_
  refine G_iload_n (i := 1) C 31 dJ1_indexOf_4cfef_30 rfl rfl rfl ?_
  refine G_iload_n (i := 2) C 32 dJ1_indexOf_4cfef_31 rfl rfl rfl ?_
  refine G_iload_n (i := 3) C 33 dJ1_indexOf_4cfef_32 rfl rfl rfl ?_
  refine G_calli 36 (G_runSz C Kc_J1_indexOfChar_4cfef KS_J1_95 (by omega) (c_J1_indexOfChar 0 i m n hi hn v x11 x18 hv hm N11 N18 s18) rfl rfl (Nat.le_of_ble_eq_true rfl) rfl dJ1_indexOf_4cfef_33) rfl (fun x33 s33 h33 => ?_)
  exact G_iret C dJ1_indexOf_4cfef_36 h33
theorem c_J0_indexOf2 (d i m n : Nat) (hi : i < 3) (hn : n = sLen.getD i 0) (hn1 : 0 < n) (v a : Int32) (hv : v = nI m) (hm : m < 256) (ha : a = nI 0) (s : gS) : gMz SC yJ0_indexOf_7cf53 cJ0_indexOf_7cf53 3 (some .int) (d + 3) (fun _ z => [.ref (z i), .int v, .int a]) s (gQi SC (fun r s' => s' = s ∧ ((r = -1 ∧ ∀ j, j < sLen.getD i 0 → ¬ s_b i j = v) ∨ ∃ j, j < sLen.getD i 0 ∧ r = nI j ∧ s_b i j = v))) := by
  refine gMz_of SC_ok (by decide +kernel) (fun _ z => [some (.ref (z i)), some (.int v), some (.int a)]) (fun _ _ => rfl) (fun _ _ => rfl) (fun _ _ => Nat.le_of_ble_eq_true rfl) (fun E C0 => ?_)
  have C : gCx SC E RJ0 cJ0_indexOf_7cf53 3 (some .int) (d + 3) := C0
  refine G_aload_n (i := 0) C 1 dJ0_indexOf_7cf53_0 rfl rfl rfl ?_
  refine G_calli 4 (G_runVz C Kc_J0_isLatin1_aae02 KV_J0_492 (by omega) hi rfl (c_J0_isLatin1 0 i hi s) rfl rfl rfl (Nat.le_of_ble_eq_true rfl) rfl dJ0_indexOf_7cf53_1) rfl (fun x1 s1 h1 => ?_)
  obtain ⟨es1, e1⟩ := h1
  subst es1
  subst e1
  refine G_if_eq C 23 7 dJ0_indexOf_7cf53_4 rfl rfl (fun c => absurd c (by decide)) (fun _ => ?_)
  refine G_aload_n (i := 0) C 8 dJ0_indexOf_7cf53_7 rfl rfl rfl ?_
  refine G_strV C 11 hi dJ0_indexOf_7cf53_8 rfl ?_
  refine G_iload_n (i := 1) C 12 dJ0_indexOf_7cf53_11 rfl rfl rfl ?_
  refine G_iload_n (i := 2) C 13 dJ0_indexOf_7cf53_12 rfl rfl rfl ?_
  refine G_aload_n (i := 0) C 14 dJ0_indexOf_7cf53_13 rfl rfl rfl ?_
  refine G_calli 17 (G_runVz C Kc_J0_length_8abf5 KV_J0_505 (by omega) hi rfl (c_J0_length 0 i hi s1) rfl rfl rfl (Nat.le_of_ble_eq_true rfl) rfl dJ0_indexOf_7cf53_14) rfl (fun x14 s14 h14 => ?_)
  obtain ⟨es14, e14⟩ := h14
  subst es14
  refine G_calli 20 (G_runSz C Kc_J1_indexOf_4cfef KS_J0_637 (by omega) (c_J1_indexOf 0 i m n hi hn hn1 v a x14 hv hm ha (by rw [hn]; exact e14) s14) rfl rfl (Nat.le_of_ble_eq_true rfl) rfl dJ0_indexOf_7cf53_17) rfl (fun x17 s17 h17 => ?_)
  refine G_goto C 36 dJ0_indexOf_7cf53_20 rfl ?_
  exact G_iret C dJ0_indexOf_7cf53_36 h17
theorem c_J0_indexOf (d i m n : Nat) (hi : i < 3) (hn : n = sLen.getD i 0) (hn1 : 0 < n) (v : Int32) (hv : v = nI m) (hm : m < 256) (s : gS) : gMz SC yJ0_indexOf_0f7a4 cJ0_indexOf_0f7a4 2 (some .int) (d + 4) (fun _ z => [.ref (z i), .int v]) s (gQi SC (fun r s' => s' = s ∧ ((r = -1 ∧ ∀ j, j < sLen.getD i 0 → ¬ s_b i j = v) ∨ ∃ j, j < sLen.getD i 0 ∧ r = nI j ∧ s_b i j = v))) := by
  refine gMz_of SC_ok (by decide +kernel) (fun _ z => [some (.ref (z i)), some (.int v)]) (fun _ _ => rfl) (fun _ _ => rfl) (fun _ _ => Nat.le_of_ble_eq_true rfl) (fun E C0 => ?_)
  have C : gCx SC E RJ0 cJ0_indexOf_0f7a4 2 (some .int) (d + 4) := C0
  refine G_aload_n (i := 0) C 1 dJ0_indexOf_0f7a4_0 rfl rfl rfl ?_
  refine G_iload_n (i := 1) C 2 dJ0_indexOf_0f7a4_1 rfl rfl rfl ?_
  refine G_iconst (v := 0) C 3 dJ0_indexOf_0f7a4_2 rfl rfl ?_
  refine G_calli 6 (G_runVz C Kc_J0_indexOf_7cf53 KV_J0_633 (by omega) hi rfl (c_J0_indexOf2 0 i m n hi hn hn1 v 0 hv hm rfl s) rfl rfl rfl (Nat.le_of_ble_eq_true rfl) rfl dJ0_indexOf_0f7a4_3) rfl (fun x3 s3 h3 => ?_)
  exact G_iret C dJ0_indexOf_0f7a4_6 h3
