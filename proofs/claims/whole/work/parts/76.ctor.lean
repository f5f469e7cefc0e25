theorem dX10_init_0 : decode cX10_init 0 = .ok (.aload_n 0, 1) := by decide +kernel
theorem dX10_init_1 : decode cX10_init 1 = .ok (.invokespecial 1, 3) := by decide +kernel
theorem dX10_init_4 : decode cX10_init 4 = .ok (.aload_n 0, 1) := by decide +kernel
theorem dX10_init_5 : decode cX10_init 5 = .ok (.bipush 6, 2) := by decide +kernel
theorem dX10_init_7 : decode cX10_init 7 = .ok (.anewarray 9, 3) := by decide +kernel
theorem dX10_init_10 : decode cX10_init 10 = .ok (.putfield 11, 3) := by decide +kernel
theorem dX10_init_13 : decode cX10_init 13 = .ok (.aload_n 0, 1) := by decide +kernel
theorem dX10_init_14 : decode cX10_init 14 = .ok (.iconst 4, 1) := by decide +kernel
theorem dX10_init_15 : decode cX10_init 15 = .ok (.anewarray 15, 3) := by decide +kernel
theorem dX10_init_18 : decode cX10_init 18 = .ok (.putfield 17, 3) := by decide +kernel
theorem dX10_init_21 : decode cX10_init 21 = .ok (.aload_n 0, 1) := by decide +kernel
theorem dX10_init_22 : decode cX10_init 22 = .ok (.new 21, 3) := by decide +kernel
theorem dX10_init_25 : decode cX10_init 25 = .ok (.dup, 1) := by decide +kernel
theorem dX10_init_26 : decode cX10_init 26 = .ok (.invokespecial 23, 3) := by decide +kernel
theorem dX10_init_29 : decode cX10_init 29 = .ok (.putfield 24, 3) := by decide +kernel
theorem dX10_init_32 : decode cX10_init 32 = .ok (.aload_n 0, 1) := by decide +kernel
theorem dX10_init_33 : decode cX10_init 33 = .ok (.bipush 9, 2) := by decide +kernel
theorem dX10_init_35 : decode cX10_init 35 = .ok (.newarray .int, 2) := by decide +kernel
theorem dX10_init_37 : decode cX10_init 37 = .ok (.putfield 28, 3) := by decide +kernel
theorem dX10_init_40 : decode cX10_init 40 = .ok (.iconst 0, 1) := by decide +kernel
theorem dX10_init_41 : decode cX10_init 41 = .ok (.istore_n 1, 1) := by decide +kernel
theorem dX10_init_42 : decode cX10_init 42 = .ok (.iload_n 1, 1) := by decide +kernel
theorem dX10_init_43 : decode cX10_init 43 = .ok (.bipush 6, 2) := by decide +kernel
theorem dX10_init_45 : decode cX10_init 45 = .ok (.if_icmp .ge 22, 3) := by decide +kernel
theorem dX10_init_48 : decode cX10_init 48 = .ok (.aload_n 0, 1) := by decide +kernel
theorem dX10_init_49 : decode cX10_init 49 = .ok (.getfield 11, 3) := by decide +kernel
theorem dX10_init_52 : decode cX10_init 52 = .ok (.iload_n 1, 1) := by decide +kernel
theorem dX10_init_53 : decode cX10_init 53 = .ok (.new 9, 3) := by decide +kernel
theorem dX10_init_56 : decode cX10_init 56 = .ok (.dup, 1) := by decide +kernel
theorem dX10_init_57 : decode cX10_init 57 = .ok (.invokespecial 32, 3) := by decide +kernel
theorem dX10_init_60 : decode cX10_init 60 = .ok (.aastore, 1) := by decide +kernel
theorem dX10_init_61 : decode cX10_init 61 = .ok (.iinc 1 1, 3) := by decide +kernel
theorem dX10_init_64 : decode cX10_init 64 = .ok (.goto (-22), 3) := by decide +kernel
theorem dX10_init_67 : decode cX10_init 67 = .ok (.iconst 0, 1) := by decide +kernel
theorem dX10_init_68 : decode cX10_init 68 = .ok (.istore_n 1, 1) := by decide +kernel
theorem dX10_init_69 : decode cX10_init 69 = .ok (.iload_n 1, 1) := by decide +kernel
theorem dX10_init_70 : decode cX10_init 70 = .ok (.iconst 4, 1) := by decide +kernel
theorem dX10_init_71 : decode cX10_init 71 = .ok (.if_icmp .ge 22, 3) := by decide +kernel
theorem dX10_init_74 : decode cX10_init 74 = .ok (.aload_n 0, 1) := by decide +kernel
theorem dX10_init_75 : decode cX10_init 75 = .ok (.getfield 17, 3) := by decide +kernel
theorem dX10_init_78 : decode cX10_init 78 = .ok (.iload_n 1, 1) := by decide +kernel
theorem dX10_init_79 : decode cX10_init 79 = .ok (.new 15, 3) := by decide +kernel
theorem dX10_init_82 : decode cX10_init 82 = .ok (.dup, 1) := by decide +kernel
theorem dX10_init_83 : decode cX10_init 83 = .ok (.invokespecial 33, 3) := by decide +kernel
theorem dX10_init_86 : decode cX10_init 86 = .ok (.aastore, 1) := by decide +kernel
theorem dX10_init_87 : decode cX10_init 87 = .ok (.iinc 1 1, 3) := by decide +kernel
theorem dX10_init_90 : decode cX10_init 90 = .ok (.goto (-21), 3) := by decide +kernel
theorem dX10_init_93 : decode cX10_init 93 = .ok (.bipush 6, 2) := by decide +kernel
theorem dX10_init_95 : decode cX10_init 95 = .ok (.anewarray 34, 3) := by decide +kernel
theorem dX10_init_98 : decode cX10_init 98 = .ok (.dup, 1) := by decide +kernel
theorem dX10_init_99 : decode cX10_init 99 = .ok (.iconst 0, 1) := by decide +kernel
theorem dX10_init_100 : decode cX10_init 100 = .ok (.new 34, 3) := by decide +kernel
theorem dX10_init_103 : decode cX10_init 103 = .ok (.dup, 1) := by decide +kernel
theorem dX10_init_104 : decode cX10_init 104 = .ok (.invokespecial 36, 3) := by decide +kernel
theorem dX10_init_107 : decode cX10_init 107 = .ok (.aastore, 1) := by decide +kernel
theorem dX10_init_108 : decode cX10_init 108 = .ok (.dup, 1) := by decide +kernel
theorem dX10_init_109 : decode cX10_init 109 = .ok (.iconst 1, 1) := by decide +kernel
theorem dX10_init_110 : decode cX10_init 110 = .ok (.new 37, 3) := by decide +kernel
theorem dX10_init_113 : decode cX10_init 113 = .ok (.dup, 1) := by decide +kernel
theorem dX10_init_114 : decode cX10_init 114 = .ok (.invokespecial 39, 3) := by decide +kernel
theorem dX10_init_117 : decode cX10_init 117 = .ok (.aastore, 1) := by decide +kernel
theorem dX10_init_118 : decode cX10_init 118 = .ok (.dup, 1) := by decide +kernel
theorem dX10_init_119 : decode cX10_init 119 = .ok (.iconst 2, 1) := by decide +kernel
theorem dX10_init_120 : decode cX10_init 120 = .ok (.new 40, 3) := by decide +kernel
theorem dX10_init_123 : decode cX10_init 123 = .ok (.dup, 1) := by decide +kernel
theorem dX10_init_124 : decode cX10_init 124 = .ok (.invokespecial 42, 3) := by decide +kernel
theorem dX10_init_127 : decode cX10_init 127 = .ok (.aastore, 1) := by decide +kernel
theorem dX10_init_128 : decode cX10_init 128 = .ok (.dup, 1) := by decide +kernel
theorem dX10_init_129 : decode cX10_init 129 = .ok (.iconst 3, 1) := by decide +kernel
theorem dX10_init_130 : decode cX10_init 130 = .ok (.new 43, 3) := by decide +kernel
theorem dX10_init_133 : decode cX10_init 133 = .ok (.dup, 1) := by decide +kernel
theorem dX10_init_134 : decode cX10_init 134 = .ok (.invokespecial 45, 3) := by decide +kernel
theorem dX10_init_137 : decode cX10_init 137 = .ok (.aastore, 1) := by decide +kernel
theorem dX10_init_138 : decode cX10_init 138 = .ok (.dup, 1) := by decide +kernel
theorem dX10_init_139 : decode cX10_init 139 = .ok (.iconst 4, 1) := by decide +kernel
theorem dX10_init_140 : decode cX10_init 140 = .ok (.new 46, 3) := by decide +kernel
theorem dX10_init_143 : decode cX10_init 143 = .ok (.dup, 1) := by decide +kernel
theorem dX10_init_144 : decode cX10_init 144 = .ok (.invokespecial 48, 3) := by decide +kernel
theorem dX10_init_147 : decode cX10_init 147 = .ok (.aastore, 1) := by decide +kernel
theorem dX10_init_148 : decode cX10_init 148 = .ok (.dup, 1) := by decide +kernel
theorem dX10_init_149 : decode cX10_init 149 = .ok (.iconst 5, 1) := by decide +kernel
theorem dX10_init_150 : decode cX10_init 150 = .ok (.new 49, 3) := by decide +kernel
theorem dX10_init_153 : decode cX10_init 153 = .ok (.dup, 1) := by decide +kernel
theorem dX10_init_154 : decode cX10_init 154 = .ok (.invokespecial 51, 3) := by decide +kernel
theorem dX10_init_157 : decode cX10_init 157 = .ok (.aastore, 1) := by decide +kernel
theorem dX10_init_158 : decode cX10_init 158 = .ok (.astore_n 1, 1) := by decide +kernel
theorem dX10_init_159 : decode cX10_init 159 = .ok (.aload_n 0, 1) := by decide +kernel
theorem dX10_init_160 : decode cX10_init 160 = .ok (.new 52, 3) := by decide +kernel
theorem dX10_init_163 : decode cX10_init 163 = .ok (.dup, 1) := by decide +kernel
theorem dX10_init_164 : decode cX10_init 164 = .ok (.aload_n 0, 1) := by decide +kernel
theorem dX10_init_165 : decode cX10_init 165 = .ok (.getfield 11, 3) := by decide +kernel
theorem dX10_init_168 : decode cX10_init 168 = .ok (.aload_n 1, 1) := by decide +kernel
theorem dX10_init_169 : decode cX10_init 169 = .ok (.invokespecial 54, 3) := by decide +kernel
theorem dX10_init_172 : decode cX10_init 172 = .ok (.putfield 57, 3) := by decide +kernel
theorem dX10_init_175 : decode cX10_init 175 = .ok (.aload_n 0, 1) := by decide +kernel
theorem dX10_init_176 : decode cX10_init 176 = .ok (.new 52, 3) := by decide +kernel
theorem dX10_init_179 : decode cX10_init 179 = .ok (.dup, 1) := by decide +kernel
theorem dX10_init_180 : decode cX10_init 180 = .ok (.aload_n 0, 1) := by decide +kernel
theorem dX10_init_181 : decode cX10_init 181 = .ok (.getfield 11, 3) := by decide +kernel
theorem dX10_init_184 : decode cX10_init 184 = .ok (.aload_n 1, 1) := by decide +kernel
theorem dX10_init_185 : decode cX10_init 185 = .ok (.invokespecial 54, 3) := by decide +kernel
theorem dX10_init_188 : decode cX10_init 188 = .ok (.putfield 61, 3) := by decide +kernel
theorem dX10_init_191 : decode cX10_init 191 = .ok (.aload_n 0, 1) := by decide +kernel
theorem dX10_init_192 : decode cX10_init 192 = .ok (.new 52, 3) := by decide +kernel
theorem dX10_init_195 : decode cX10_init 195 = .ok (.dup, 1) := by decide +kernel
theorem dX10_init_196 : decode cX10_init 196 = .ok (.aload_n 0, 1) := by decide +kernel
theorem dX10_init_197 : decode cX10_init 197 = .ok (.getfield 11, 3) := by decide +kernel
theorem dX10_init_200 : decode cX10_init 200 = .ok (.aload_n 1, 1) := by decide +kernel
theorem dX10_init_201 : decode cX10_init 201 = .ok (.invokespecial 54, 3) := by decide +kernel
theorem dX10_init_204 : decode cX10_init 204 = .ok (.putfield 64, 3) := by decide +kernel
theorem dX10_init_207 : decode cX10_init 207 = .ok (.iconst 0, 1) := by decide +kernel
theorem dX10_init_208 : decode cX10_init 208 = .ok (.istore_n 2, 1) := by decide +kernel
theorem dX10_init_209 : decode cX10_init 209 = .ok (.iload_n 2, 1) := by decide +kernel
theorem dX10_init_210 : decode cX10_init 210 = .ok (.ldc 67, 2) := by decide +kernel
theorem dX10_init_212 : decode cX10_init 212 = .ok (.invokevirtual 69, 3) := by decide +kernel
theorem dX10_init_215 : decode cX10_init 215 = .ok (.if_icmp .ge 22, 3) := by decide +kernel
theorem dX10_init_218 : decode cX10_init 218 = .ok (.aload_n 0, 1) := by decide +kernel
theorem dX10_init_219 : decode cX10_init 219 = .ok (.getfield 24, 3) := by decide +kernel
theorem dX10_init_222 : decode cX10_init 222 = .ok (.ldc 67, 2) := by decide +kernel
theorem dX10_init_224 : decode cX10_init 224 = .ok (.iload_n 2, 1) := by decide +kernel
theorem dX10_init_225 : decode cX10_init 225 = .ok (.invokevirtual 75, 3) := by decide +kernel
theorem dX10_init_228 : decode cX10_init 228 = .ok (.invokevirtual 79, 3) := by decide +kernel
theorem dX10_init_231 : decode cX10_init 231 = .ok (.iinc 2 1, 3) := by decide +kernel
theorem dX10_init_234 : decode cX10_init 234 = .ok (.goto (-25), 3) := by decide +kernel
theorem dX10_init_237 : decode cX10_init 237 = .ok (.aload_n 0, 1) := by decide +kernel
theorem dX10_init_238 : decode cX10_init 238 = .ok (.getfield 24, 3) := by decide +kernel
theorem dX10_init_241 : decode cX10_init 241 = .ok (.aload_n 0, 1) := by decide +kernel
theorem dX10_init_242 : decode cX10_init 242 = .ok (.getfield 11, 3) := by decide +kernel
theorem dX10_init_245 : decode cX10_init 245 = .ok (.iconst 0, 1) := by decide +kernel
theorem dX10_init_246 : decode cX10_init 246 = .ok (.aaload, 1) := by decide +kernel
theorem dX10_init_247 : decode cX10_init 247 = .ok (.invokevirtual 83, 3) := by decide +kernel
theorem dX10_init_250 : decode cX10_init 250 = .ok (.pop, 1) := by decide +kernel
theorem dX10_init_251 : decode cX10_init 251 = .ok (.aload_n 0, 1) := by decide +kernel
theorem dX10_init_252 : decode cX10_init 252 = .ok (.getfield 24, 3) := by decide +kernel
theorem dX10_init_255 : decode cX10_init 255 = .ok (.iconst 0, 1) := by decide +kernel
theorem dX10_init_256 : decode cX10_init 256 = .ok (.putfield 87, 3) := by decide +kernel
theorem dX10_init_259 : decode cX10_init 259 = .ok (.aload_n 0, 1) := by decide +kernel
theorem dX10_init_260 : decode cX10_init 260 = .ok (.iconst 1, 1) := by decide +kernel
theorem dX10_init_261 : decode cX10_init 261 = .ok (.putfield 91, 3) := by decide +kernel
theorem dX10_init_264 : decode cX10_init 264 = .ok (.return_, 1) := by decide +kernel
set_option maxHeartbeats 8000000 in
set_option maxRecDepth 100000 in
theorem a_X10_init {E : gE} {b : Nat} {Q : State → Prop} (C : kCx E RX10 cX10_init 3 none) (hJ : kJ (e_s E)) (hin : (e_M E).name = "<init>") (hRf : 60 ≤ (e_R E).frames) (hRl : 3840 ≤ (e_R E).locals) (hRc : 71 ≤ (e_R E).cells) (hRs : 2527 ≤ (e_R E).slots) (hsz : (e_s E).heap.size + 0 = b + 1) (hck : e_ck E = 71) (hcs : e_cs E = 2527) (had : e_ad E = fun k => b + k) (kk : GW SC E Q 207 [some (.ref b), some (.ref (b + 38)), none] [] s_i0) : AW E 72 b 1 0 0 Q 0 [some (.ref b), none, none] [] (fun _ => .inr (10, [.null, .null, .null, .null, .null, .null, .null, .int 0, .int 0])) := by
  refine A_aload_n (i := 0) C 1 dX10_init_0 rfl rfl rfl ?_
  refine A_objInit C 4 w_27 (by omega) (by omega) rfl (by decide) dX10_init_1 rfl ?_
  refine A_aload_n (i := 0) C 5 dX10_init_4 rfl rfl rfl ?_
  refine A_bipush (v := 6) C 7 dX10_init_5 rfl rfl ?_
  refine A_newq (N' := 6) (t0 := 1) C 10 rfl (by decide) w_30 hJ.2.2.1 rfl (by omega) (Or.inl (by decide)) (by omega) (by omega) dX10_init_7 rfl ?_
  show AW E 72 b 2 1 6 _ 10 [some (.ref b), none, none] [.ref (b + 1), .ref b] _
  refine A_putF (fs := [.null, .null, .null, .null, .null, .null, .null, .int 0, .int 0]) C hin 13 FL_10_11 tyX10_ok nmX10 rfl rfl (tyX10_ok 0 (by decide)) ⟨rfl, rfl⟩ (k := 0) (by decide) (by decide) rfl (Nat.le_of_ble_eq_true rfl) dX10_init_10 rfl ?_
  refine A_aload_n (i := 0) C 14 dX10_init_13 rfl rfl rfl ?_
  refine A_iconst (v := 4) C 15 dX10_init_14 rfl rfl ?_
  refine A_newq (N' := 4) (t0 := 2) C 18 rfl (by decide) w_32 hJ.2.2.2.1 rfl (by omega) (Or.inl (by decide)) (by omega) (by omega) dX10_init_15 rfl ?_
  show AW E 72 b 3 2 10 _ 18 [some (.ref b), none, none] [.ref (b + 2), .ref b] _
  refine A_putF (fs := [.ref (b + 1), .null, .null, .null, .null, .null, .null, .int 0, .int 0]) C hin 21 FL_10_17 tyX10_ok nmX10 rfl rfl (tyX10_ok 1 (by decide)) ⟨rfl, rfl⟩ (k := 0) (by decide) (by decide) rfl (Nat.le_of_ble_eq_true rfl) dX10_init_18 rfl ?_
  refine A_aload_n (i := 0) C 22 dX10_init_21 rfl rfl rfl ?_
  refine A_new (ci := 6) (fs := [.null, .int 0, .int 0, .int 0, .int 0, .int 0, .null]) (ty := tyX6) C 25 inX6 tyX6_ok w_34 w_35 w_2 rfl (fun j hj => by rcases (show j = 0 ∨ j = 1 ∨ j = 2 ∨ j = 3 ∨ j = 4 ∨ j = 5 ∨ j = 6 by omega) with rfl | rfl | rfl | rfl | rfl | rfl | rfl <;> rfl) (by omega) (Or.inl (by decide)) (by omega) (by omega) dX10_init_22 rfl ?_
  show AW E 72 b 4 3 17 _ 25 [some (.ref b), none, none] [.ref (b + 3), .ref b] _
  refine A_dup C 26 dX10_init_25 rfl rfl ?_
  refine A_init C hJ 29 (n0 := 3) (nA := 0) (As := []) (st := [.ref (b + 3), .ref b]) i_X6_init ⟨w_38, by decide +kernel, by decide +kernel, by decide +kernel, by decide⟩ (gNB_of w_36 rfl) w_2 w_37 rfl (by omega) (by omega) (by omega) (by omega) (by decide) (by decide) rfl rfl rfl (Nat.le_of_ble_eq_true rfl) rfl dX10_init_26 rfl ?_
  show AW E 72 b 5 4 177 _ 29 [some (.ref b), none, none] [.ref (b + 3), .ref b] _
  refine A_putF (fs := [.ref (b + 1), .ref (b + 2), .null, .null, .null, .null, .null, .int 0, .int 0]) C hin 32 FL_10_24 tyX10_ok nmX10 rfl rfl (tyX10_ok 2 (by decide)) ⟨rfl, rfl⟩ (k := 0) (by decide) (by decide) rfl (Nat.le_of_ble_eq_true rfl) dX10_init_29 rfl ?_
  refine A_aload_n (i := 0) C 33 dX10_init_32 rfl rfl rfl ?_
  refine A_bipush (v := 9) C 35 dX10_init_33 rfl rfl ?_
  refine A_newa (N' := 9) C 37 rfl (by decide) (by omega) (Or.inl (by decide)) (by omega) (by omega) dX10_init_35 rfl ?_
  show AW E 72 b 6 5 186 _ 37 [some (.ref b), none, none] [.ref (b + 5), .ref b] _
  refine A_putF (fs := [.ref (b + 1), .ref (b + 2), .ref (b + 3), .null, .null, .null, .null, .int 0, .int 0]) C hin 40 FL_10_28 tyX10_ok nmX10 rfl rfl (tyX10_ok 6 (by decide)) ⟨rfl, rfl⟩ (k := 0) (by decide) (by decide) rfl (Nat.le_of_ble_eq_true rfl) dX10_init_37 rfl ?_
  refine A_iconst (v := 0) C 41 dX10_init_40 rfl rfl ?_
  refine A_istore_n (i := 1) (L' := [some (.ref b), some (.int 0), none]) C 42 dX10_init_41 rfl rfl (Nat.le_of_ble_eq_true rfl) rfl rfl ?_
  refine A_iload_n (i := 1) C 43 dX10_init_42 rfl rfl rfl ?_
  refine A_bipush (v := 6) C 45 dX10_init_43 rfl rfl ?_
  refine A_icmp_ge C 67 48 dX10_init_45 rfl rfl (fun c => absurd c (by decide)) (fun _ => ?_)
  refine A_aload_n (i := 0) C 49 dX10_init_48 rfl rfl rfl ?_
  refine A_get (fs := [.ref (b + 1), .ref (b + 2), .ref (b + 3), .null, .null, .null, .ref (b + 5), .int 0, .int 0]) (v := .ref (b + 1)) C 52 FL_10_11 (k := 0) (by decide) rfl rfl dX10_init_49 rfl ?_
  refine A_iload_n (i := 1) C 53 dX10_init_52 rfl rfl rfl ?_
  refine A_new (ci := 7) (fs := [.null, .null, .null, .int 0]) (ty := tyX7) C 56 inX7 tyX7_ok w_30 w_64 w_3 rfl (fun j hj => by rcases (show j = 0 ∨ j = 1 ∨ j = 2 ∨ j = 3 by omega) with rfl | rfl | rfl | rfl <;> rfl) (by omega) (Or.inl (by decide)) (by omega) (by omega) dX10_init_53 rfl ?_
  show AW E 72 b 7 6 190 _ 56 [some (.ref b), some (.int 0), none] [.ref (b + 6), .int 0, .ref (b + 1)] _
  refine A_dup C 57 dX10_init_56 rfl rfl ?_
  refine A_init C hJ 60 (n0 := 6) (nA := 0) (As := []) (st := [.ref (b + 6), .int 0, .ref (b + 1)]) i_X7_init ⟨w_67, by decide +kernel, by decide +kernel, by decide +kernel, by decide⟩ (gNB_of w_65 rfl) w_3 w_66 rfl (by omega) (by omega) (by omega) (by omega) (by decide) (by decide) rfl rfl rfl (Nat.le_of_ble_eq_true rfl) rfl dX10_init_57 rfl ?_
  show AW E 72 b 10 9 513 _ 60 [some (.ref b), some (.int 0), none] [.ref (b + 6), .int 0, .ref (b + 1)] _
  refine A_aast (i' := 0) (t0 := 1) (k := 1) (q := 6) (f := (fun _ => none)) C 61 rfl (by decide) (by decide) (by decide) (by decide) (by decide) rfl rfl rfl rfl dX10_init_60 rfl ?_
  refine A_iinc (w := 1) C 64 dX10_init_61 rfl rfl rfl rfl (fun x61_38 ex61_38 => ?_)
  obtain rfl : x61_38 = 1 := ex61_38.trans (by decide)
  show AW E 72 b 10 9 513 _ 64 [some (.ref b), some (.int 1), none] [] _
  refine A_goto C 42 dX10_init_64 rfl ?_
  refine A_iload_n (i := 1) C 43 dX10_init_42 rfl rfl rfl ?_
  refine A_bipush (v := 6) C 45 dX10_init_43 rfl rfl ?_
  refine A_icmp_ge C 67 48 dX10_init_45 rfl rfl (fun c => absurd c (by decide)) (fun _ => ?_)
  refine A_aload_n (i := 0) C 49 dX10_init_48 rfl rfl rfl ?_
  refine A_get (fs := [.ref (b + 1), .ref (b + 2), .ref (b + 3), .null, .null, .null, .ref (b + 5), .int 0, .int 0]) (v := .ref (b + 1)) C 52 FL_10_11 (k := 0) (by decide) rfl rfl dX10_init_49 rfl ?_
  refine A_iload_n (i := 1) C 53 dX10_init_52 rfl rfl rfl ?_
  refine A_new (ci := 7) (fs := [.null, .null, .null, .int 0]) (ty := tyX7) C 56 inX7 tyX7_ok w_30 w_64 w_3 rfl (fun j hj => by rcases (show j = 0 ∨ j = 1 ∨ j = 2 ∨ j = 3 by omega) with rfl | rfl | rfl | rfl <;> rfl) (by omega) (Or.inl (by decide)) (by omega) (by omega) dX10_init_53 rfl ?_
  show AW E 72 b 11 10 517 _ 56 [some (.ref b), some (.int 1), none] [.ref (b + 10), .int 1, .ref (b + 1)] _
  refine A_dup C 57 dX10_init_56 rfl rfl ?_
  refine A_init C hJ 60 (n0 := 10) (nA := 0) (As := []) (st := [.ref (b + 10), .int 1, .ref (b + 1)]) i_X7_init ⟨w_67, by decide +kernel, by decide +kernel, by decide +kernel, by decide⟩ (gNB_of w_65 rfl) w_3 w_66 rfl (by omega) (by omega) (by omega) (by omega) (by decide) (by decide) rfl rfl rfl (Nat.le_of_ble_eq_true rfl) rfl dX10_init_57 rfl ?_
  show AW E 72 b 14 13 840 _ 60 [some (.ref b), some (.int 1), none] [.ref (b + 10), .int 1, .ref (b + 1)] _
  refine A_aast (i' := 1) (t0 := 1) (k := 1) (q := 10) (f := (va_up (fun _ => none) 0 (some (b + 6)))) C 61 rfl (by decide) (by decide) (by decide) (by decide) (by decide) rfl rfl rfl rfl dX10_init_60 rfl ?_
  refine A_iinc (w := 1) C 64 dX10_init_61 rfl rfl rfl rfl (fun x61_54 ex61_54 => ?_)
  obtain rfl : x61_54 = 2 := ex61_54.trans (by decide)
  show AW E 72 b 14 13 840 _ 64 [some (.ref b), some (.int 2), none] [] _
  refine A_goto C 42 dX10_init_64 rfl ?_
  refine A_iload_n (i := 1) C 43 dX10_init_42 rfl rfl rfl ?_
  refine A_bipush (v := 6) C 45 dX10_init_43 rfl rfl ?_
  refine A_icmp_ge C 67 48 dX10_init_45 rfl rfl (fun c => absurd c (by decide)) (fun _ => ?_)
  refine A_aload_n (i := 0) C 49 dX10_init_48 rfl rfl rfl ?_
  refine A_get (fs := [.ref (b + 1), .ref (b + 2), .ref (b + 3), .null, .null, .null, .ref (b + 5), .int 0, .int 0]) (v := .ref (b + 1)) C 52 FL_10_11 (k := 0) (by decide) rfl rfl dX10_init_49 rfl ?_
  refine A_iload_n (i := 1) C 53 dX10_init_52 rfl rfl rfl ?_
  refine A_new (ci := 7) (fs := [.null, .null, .null, .int 0]) (ty := tyX7) C 56 inX7 tyX7_ok w_30 w_64 w_3 rfl (fun j hj => by rcases (show j = 0 ∨ j = 1 ∨ j = 2 ∨ j = 3 by omega) with rfl | rfl | rfl | rfl <;> rfl) (by omega) (Or.inl (by decide)) (by omega) (by omega) dX10_init_53 rfl ?_
  show AW E 72 b 15 14 844 _ 56 [some (.ref b), some (.int 2), none] [.ref (b + 14), .int 2, .ref (b + 1)] _
  refine A_dup C 57 dX10_init_56 rfl rfl ?_
  refine A_init C hJ 60 (n0 := 14) (nA := 0) (As := []) (st := [.ref (b + 14), .int 2, .ref (b + 1)]) i_X7_init ⟨w_67, by decide +kernel, by decide +kernel, by decide +kernel, by decide⟩ (gNB_of w_65 rfl) w_3 w_66 rfl (by omega) (by omega) (by omega) (by omega) (by decide) (by decide) rfl rfl rfl (Nat.le_of_ble_eq_true rfl) rfl dX10_init_57 rfl ?_
  show AW E 72 b 18 17 1167 _ 60 [some (.ref b), some (.int 2), none] [.ref (b + 14), .int 2, .ref (b + 1)] _
  refine A_aast (i' := 2) (t0 := 1) (k := 1) (q := 14) (f := (va_up (va_up (fun _ => none) 0 (some (b + 6))) 1 (some (b + 10)))) C 61 rfl (by decide) (by decide) (by decide) (by decide) (by decide) rfl rfl rfl rfl dX10_init_60 rfl ?_
  refine A_iinc (w := 1) C 64 dX10_init_61 rfl rfl rfl rfl (fun x61_70 ex61_70 => ?_)
  obtain rfl : x61_70 = 3 := ex61_70.trans (by decide)
  show AW E 72 b 18 17 1167 _ 64 [some (.ref b), some (.int 3), none] [] _
  refine A_goto C 42 dX10_init_64 rfl ?_
  refine A_iload_n (i := 1) C 43 dX10_init_42 rfl rfl rfl ?_
  refine A_bipush (v := 6) C 45 dX10_init_43 rfl rfl ?_
  refine A_icmp_ge C 67 48 dX10_init_45 rfl rfl (fun c => absurd c (by decide)) (fun _ => ?_)
  refine A_aload_n (i := 0) C 49 dX10_init_48 rfl rfl rfl ?_
  refine A_get (fs := [.ref (b + 1), .ref (b + 2), .ref (b + 3), .null, .null, .null, .ref (b + 5), .int 0, .int 0]) (v := .ref (b + 1)) C 52 FL_10_11 (k := 0) (by decide) rfl rfl dX10_init_49 rfl ?_
  refine A_iload_n (i := 1) C 53 dX10_init_52 rfl rfl rfl ?_
  refine A_new (ci := 7) (fs := [.null, .null, .null, .int 0]) (ty := tyX7) C 56 inX7 tyX7_ok w_30 w_64 w_3 rfl (fun j hj => by rcases (show j = 0 ∨ j = 1 ∨ j = 2 ∨ j = 3 by omega) with rfl | rfl | rfl | rfl <;> rfl) (by omega) (Or.inl (by decide)) (by omega) (by omega) dX10_init_53 rfl ?_
  show AW E 72 b 19 18 1171 _ 56 [some (.ref b), some (.int 3), none] [.ref (b + 18), .int 3, .ref (b + 1)] _
  refine A_dup C 57 dX10_init_56 rfl rfl ?_
  refine A_init C hJ 60 (n0 := 18) (nA := 0) (As := []) (st := [.ref (b + 18), .int 3, .ref (b + 1)]) i_X7_init ⟨w_67, by decide +kernel, by decide +kernel, by decide +kernel, by decide⟩ (gNB_of w_65 rfl) w_3 w_66 rfl (by omega) (by omega) (by omega) (by omega) (by decide) (by decide) rfl rfl rfl (Nat.le_of_ble_eq_true rfl) rfl dX10_init_57 rfl ?_
  show AW E 72 b 22 21 1494 _ 60 [some (.ref b), some (.int 3), none] [.ref (b + 18), .int 3, .ref (b + 1)] _
  refine A_aast (i' := 3) (t0 := 1) (k := 1) (q := 18) (f := (va_up (va_up (va_up (fun _ => none) 0 (some (b + 6))) 1 (some (b + 10))) 2 (some (b + 14)))) C 61 rfl (by decide) (by decide) (by decide) (by decide) (by decide) rfl rfl rfl rfl dX10_init_60 rfl ?_
  refine A_iinc (w := 1) C 64 dX10_init_61 rfl rfl rfl rfl (fun x61_86 ex61_86 => ?_)
  obtain rfl : x61_86 = 4 := ex61_86.trans (by decide)
  show AW E 72 b 22 21 1494 _ 64 [some (.ref b), some (.int 4), none] [] _
  refine A_goto C 42 dX10_init_64 rfl ?_
  refine A_iload_n (i := 1) C 43 dX10_init_42 rfl rfl rfl ?_
  refine A_bipush (v := 6) C 45 dX10_init_43 rfl rfl ?_
  refine A_icmp_ge C 67 48 dX10_init_45 rfl rfl (fun c => absurd c (by decide)) (fun _ => ?_)
  refine A_aload_n (i := 0) C 49 dX10_init_48 rfl rfl rfl ?_
  refine A_get (fs := [.ref (b + 1), .ref (b + 2), .ref (b + 3), .null, .null, .null, .ref (b + 5), .int 0, .int 0]) (v := .ref (b + 1)) C 52 FL_10_11 (k := 0) (by decide) rfl rfl dX10_init_49 rfl ?_
  refine A_iload_n (i := 1) C 53 dX10_init_52 rfl rfl rfl ?_
  refine A_new (ci := 7) (fs := [.null, .null, .null, .int 0]) (ty := tyX7) C 56 inX7 tyX7_ok w_30 w_64 w_3 rfl (fun j hj => by rcases (show j = 0 ∨ j = 1 ∨ j = 2 ∨ j = 3 by omega) with rfl | rfl | rfl | rfl <;> rfl) (by omega) (Or.inl (by decide)) (by omega) (by omega) dX10_init_53 rfl ?_
  show AW E 72 b 23 22 1498 _ 56 [some (.ref b), some (.int 4), none] [.ref (b + 22), .int 4, .ref (b + 1)] _
  refine A_dup C 57 dX10_init_56 rfl rfl ?_
  refine A_init C hJ 60 (n0 := 22) (nA := 0) (As := []) (st := [.ref (b + 22), .int 4, .ref (b + 1)]) i_X7_init ⟨w_67, by decide +kernel, by decide +kernel, by decide +kernel, by decide⟩ (gNB_of w_65 rfl) w_3 w_66 rfl (by omega) (by omega) (by omega) (by omega) (by decide) (by decide) rfl rfl rfl (Nat.le_of_ble_eq_true rfl) rfl dX10_init_57 rfl ?_
  show AW E 72 b 26 25 1821 _ 60 [some (.ref b), some (.int 4), none] [.ref (b + 22), .int 4, .ref (b + 1)] _
  refine A_aast (i' := 4) (t0 := 1) (k := 1) (q := 22) (f := (va_up (va_up (va_up (va_up (fun _ => none) 0 (some (b + 6))) 1 (some (b + 10))) 2 (some (b + 14))) 3 (some (b + 18)))) C 61 rfl (by decide) (by decide) (by decide) (by decide) (by decide) rfl rfl rfl rfl dX10_init_60 rfl ?_
  refine A_iinc (w := 1) C 64 dX10_init_61 rfl rfl rfl rfl (fun x61_102 ex61_102 => ?_)
  obtain rfl : x61_102 = 5 := ex61_102.trans (by decide)
  show AW E 72 b 26 25 1821 _ 64 [some (.ref b), some (.int 5), none] [] _
  refine A_goto C 42 dX10_init_64 rfl ?_
  refine A_iload_n (i := 1) C 43 dX10_init_42 rfl rfl rfl ?_
  refine A_bipush (v := 6) C 45 dX10_init_43 rfl rfl ?_
  refine A_icmp_ge C 67 48 dX10_init_45 rfl rfl (fun c => absurd c (by decide)) (fun _ => ?_)
  refine A_aload_n (i := 0) C 49 dX10_init_48 rfl rfl rfl ?_
  refine A_get (fs := [.ref (b + 1), .ref (b + 2), .ref (b + 3), .null, .null, .null, .ref (b + 5), .int 0, .int 0]) (v := .ref (b + 1)) C 52 FL_10_11 (k := 0) (by decide) rfl rfl dX10_init_49 rfl ?_
  refine A_iload_n (i := 1) C 53 dX10_init_52 rfl rfl rfl ?_
  refine A_new (ci := 7) (fs := [.null, .null, .null, .int 0]) (ty := tyX7) C 56 inX7 tyX7_ok w_30 w_64 w_3 rfl (fun j hj => by rcases (show j = 0 ∨ j = 1 ∨ j = 2 ∨ j = 3 by omega) with rfl | rfl | rfl | rfl <;> rfl) (by omega) (Or.inl (by decide)) (by omega) (by omega) dX10_init_53 rfl ?_
  show AW E 72 b 27 26 1825 _ 56 [some (.ref b), some (.int 5), none] [.ref (b + 26), .int 5, .ref (b + 1)] _
  refine A_dup C 57 dX10_init_56 rfl rfl ?_
  refine A_init C hJ 60 (n0 := 26) (nA := 0) (As := []) (st := [.ref (b + 26), .int 5, .ref (b + 1)]) i_X7_init ⟨w_67, by decide +kernel, by decide +kernel, by decide +kernel, by decide⟩ (gNB_of w_65 rfl) w_3 w_66 rfl (by omega) (by omega) (by omega) (by omega) (by decide) (by decide) rfl rfl rfl (Nat.le_of_ble_eq_true rfl) rfl dX10_init_57 rfl ?_
  show AW E 72 b 30 29 2148 _ 60 [some (.ref b), some (.int 5), none] [.ref (b + 26), .int 5, .ref (b + 1)] _
  refine A_aast (i' := 5) (t0 := 1) (k := 1) (q := 26) (f := (va_up (va_up (va_up (va_up (va_up (fun _ => none) 0 (some (b + 6))) 1 (some (b + 10))) 2 (some (b + 14))) 3 (some (b + 18))) 4 (some (b + 22)))) C 61 rfl (by decide) (by decide) (by decide) (by decide) (by decide) rfl rfl rfl rfl dX10_init_60 rfl ?_
  refine A_iinc (w := 1) C 64 dX10_init_61 rfl rfl rfl rfl (fun x61_118 ex61_118 => ?_)
  obtain rfl : x61_118 = 6 := ex61_118.trans (by decide)
  show AW E 72 b 30 29 2148 _ 64 [some (.ref b), some (.int 6), none] [] _
  refine A_goto C 42 dX10_init_64 rfl ?_
  refine A_iload_n (i := 1) C 43 dX10_init_42 rfl rfl rfl ?_
  refine A_bipush (v := 6) C 45 dX10_init_43 rfl rfl ?_
  refine A_icmp_ge C 67 48 dX10_init_45 rfl rfl (fun _ => ?_) (fun c => absurd c (by decide))
  refine A_iconst (v := 0) C 68 dX10_init_67 rfl rfl ?_
  refine A_istore_n (i := 1) (L' := [some (.ref b), some (.int 0), none]) C 69 dX10_init_68 rfl rfl (Nat.le_of_ble_eq_true rfl) rfl rfl ?_
  refine A_iload_n (i := 1) C 70 dX10_init_69 rfl rfl rfl ?_
  refine A_iconst (v := 4) C 71 dX10_init_70 rfl rfl ?_
  refine A_icmp_ge C 93 74 dX10_init_71 rfl rfl (fun c => absurd c (by decide)) (fun _ => ?_)
  refine A_aload_n (i := 0) C 75 dX10_init_74 rfl rfl rfl ?_
  refine A_get (fs := [.ref (b + 1), .ref (b + 2), .ref (b + 3), .null, .null, .null, .ref (b + 5), .int 0, .int 0]) (v := .ref (b + 2)) C 78 FL_10_17 (k := 0) (by decide) rfl rfl dX10_init_75 rfl ?_
  refine A_iload_n (i := 1) C 79 dX10_init_78 rfl rfl rfl ?_
  refine A_new (ci := 4) (fs := [.null, .int 0, .int 0]) (ty := tyX4) C 82 inX4 tyX4_ok w_32 w_84 w_4 rfl (fun j hj => by rcases (show j = 0 ∨ j = 1 ∨ j = 2 by omega) with rfl | rfl | rfl <;> rfl) (by omega) (Or.inl (by decide)) (by omega) (by omega) dX10_init_79 rfl ?_
  show AW E 72 b 31 30 2151 _ 82 [some (.ref b), some (.int 0), none] [.ref (b + 30), .int 0, .ref (b + 2)] _
  refine A_dup C 83 dX10_init_82 rfl rfl ?_
  refine A_init C hJ 86 (n0 := 30) (nA := 0) (As := []) (st := [.ref (b + 30), .int 0, .ref (b + 2)]) i_X4_init ⟨w_87, by decide +kernel, by decide +kernel, by decide +kernel, by decide⟩ (gNB_of w_85 rfl) w_4 w_86 rfl (by omega) (by omega) (by omega) (by omega) (by decide) (by decide) rfl rfl rfl (Nat.le_of_ble_eq_true rfl) rfl dX10_init_83 rfl ?_
  show AW E 72 b 32 31 2191 _ 86 [some (.ref b), some (.int 0), none] [.ref (b + 30), .int 0, .ref (b + 2)] _
  refine A_aast (i' := 0) (t0 := 2) (k := 2) (q := 30) (f := (fun _ => none)) C 87 rfl (by decide) (by decide) (by decide) (by decide) (by decide) rfl rfl rfl rfl dX10_init_86 rfl ?_
  refine A_iinc (w := 1) C 90 dX10_init_87 rfl rfl rfl rfl (fun x87_139 ex87_139 => ?_)
  obtain rfl : x87_139 = 1 := ex87_139.trans (by decide)
  show AW E 72 b 32 31 2191 _ 90 [some (.ref b), some (.int 1), none] [] _
  refine A_goto C 69 dX10_init_90 rfl ?_
  refine A_iload_n (i := 1) C 70 dX10_init_69 rfl rfl rfl ?_
  refine A_iconst (v := 4) C 71 dX10_init_70 rfl rfl ?_
  refine A_icmp_ge C 93 74 dX10_init_71 rfl rfl (fun c => absurd c (by decide)) (fun _ => ?_)
  refine A_aload_n (i := 0) C 75 dX10_init_74 rfl rfl rfl ?_
  refine A_get (fs := [.ref (b + 1), .ref (b + 2), .ref (b + 3), .null, .null, .null, .ref (b + 5), .int 0, .int 0]) (v := .ref (b + 2)) C 78 FL_10_17 (k := 0) (by decide) rfl rfl dX10_init_75 rfl ?_
  refine A_iload_n (i := 1) C 79 dX10_init_78 rfl rfl rfl ?_
  refine A_new (ci := 4) (fs := [.null, .int 0, .int 0]) (ty := tyX4) C 82 inX4 tyX4_ok w_32 w_84 w_4 rfl (fun j hj => by rcases (show j = 0 ∨ j = 1 ∨ j = 2 by omega) with rfl | rfl | rfl <;> rfl) (by omega) (Or.inl (by decide)) (by omega) (by omega) dX10_init_79 rfl ?_
  show AW E 72 b 33 32 2194 _ 82 [some (.ref b), some (.int 1), none] [.ref (b + 32), .int 1, .ref (b + 2)] _
  refine A_dup C 83 dX10_init_82 rfl rfl ?_
  refine A_init C hJ 86 (n0 := 32) (nA := 0) (As := []) (st := [.ref (b + 32), .int 1, .ref (b + 2)]) i_X4_init ⟨w_87, by decide +kernel, by decide +kernel, by decide +kernel, by decide⟩ (gNB_of w_85 rfl) w_4 w_86 rfl (by omega) (by omega) (by omega) (by omega) (by decide) (by decide) rfl rfl rfl (Nat.le_of_ble_eq_true rfl) rfl dX10_init_83 rfl ?_
  show AW E 72 b 34 33 2234 _ 86 [some (.ref b), some (.int 1), none] [.ref (b + 32), .int 1, .ref (b + 2)] _
  refine A_aast (i' := 1) (t0 := 2) (k := 2) (q := 32) (f := (va_up (fun _ => none) 0 (some (b + 30)))) C 87 rfl (by decide) (by decide) (by decide) (by decide) (by decide) rfl rfl rfl rfl dX10_init_86 rfl ?_
  refine A_iinc (w := 1) C 90 dX10_init_87 rfl rfl rfl rfl (fun x87_155 ex87_155 => ?_)
  obtain rfl : x87_155 = 2 := ex87_155.trans (by decide)
  show AW E 72 b 34 33 2234 _ 90 [some (.ref b), some (.int 2), none] [] _
  refine A_goto C 69 dX10_init_90 rfl ?_
  refine A_iload_n (i := 1) C 70 dX10_init_69 rfl rfl rfl ?_
  refine A_iconst (v := 4) C 71 dX10_init_70 rfl rfl ?_
  refine A_icmp_ge C 93 74 dX10_init_71 rfl rfl (fun c => absurd c (by decide)) (fun _ => ?_)
  refine A_aload_n (i := 0) C 75 dX10_init_74 rfl rfl rfl ?_
  refine A_get (fs := [.ref (b + 1), .ref (b + 2), .ref (b + 3), .null, .null, .null, .ref (b + 5), .int 0, .int 0]) (v := .ref (b + 2)) C 78 FL_10_17 (k := 0) (by decide) rfl rfl dX10_init_75 rfl ?_
  refine A_iload_n (i := 1) C 79 dX10_init_78 rfl rfl rfl ?_
  refine A_new (ci := 4) (fs := [.null, .int 0, .int 0]) (ty := tyX4) C 82 inX4 tyX4_ok w_32 w_84 w_4 rfl (fun j hj => by rcases (show j = 0 ∨ j = 1 ∨ j = 2 by omega) with rfl | rfl | rfl <;> rfl) (by omega) (Or.inl (by decide)) (by omega) (by omega) dX10_init_79 rfl ?_
  show AW E 72 b 35 34 2237 _ 82 [some (.ref b), some (.int 2), none] [.ref (b + 34), .int 2, .ref (b + 2)] _
  refine A_dup C 83 dX10_init_82 rfl rfl ?_
  refine A_init C hJ 86 (n0 := 34) (nA := 0) (As := []) (st := [.ref (b + 34), .int 2, .ref (b + 2)]) i_X4_init ⟨w_87, by decide +kernel, by decide +kernel, by decide +kernel, by decide⟩ (gNB_of w_85 rfl) w_4 w_86 rfl (by omega) (by omega) (by omega) (by omega) (by decide) (by decide) rfl rfl rfl (Nat.le_of_ble_eq_true rfl) rfl dX10_init_83 rfl ?_
  show AW E 72 b 36 35 2277 _ 86 [some (.ref b), some (.int 2), none] [.ref (b + 34), .int 2, .ref (b + 2)] _
  refine A_aast (i' := 2) (t0 := 2) (k := 2) (q := 34) (f := (va_up (va_up (fun _ => none) 0 (some (b + 30))) 1 (some (b + 32)))) C 87 rfl (by decide) (by decide) (by decide) (by decide) (by decide) rfl rfl rfl rfl dX10_init_86 rfl ?_
  refine A_iinc (w := 1) C 90 dX10_init_87 rfl rfl rfl rfl (fun x87_171 ex87_171 => ?_)
  obtain rfl : x87_171 = 3 := ex87_171.trans (by decide)
  show AW E 72 b 36 35 2277 _ 90 [some (.ref b), some (.int 3), none] [] _
  refine A_goto C 69 dX10_init_90 rfl ?_
  refine A_iload_n (i := 1) C 70 dX10_init_69 rfl rfl rfl ?_
  refine A_iconst (v := 4) C 71 dX10_init_70 rfl rfl ?_
  refine A_icmp_ge C 93 74 dX10_init_71 rfl rfl (fun c => absurd c (by decide)) (fun _ => ?_)
  refine A_aload_n (i := 0) C 75 dX10_init_74 rfl rfl rfl ?_
  refine A_get (fs := [.ref (b + 1), .ref (b + 2), .ref (b + 3), .null, .null, .null, .ref (b + 5), .int 0, .int 0]) (v := .ref (b + 2)) C 78 FL_10_17 (k := 0) (by decide) rfl rfl dX10_init_75 rfl ?_
  refine A_iload_n (i := 1) C 79 dX10_init_78 rfl rfl rfl ?_
  refine A_new (ci := 4) (fs := [.null, .int 0, .int 0]) (ty := tyX4) C 82 inX4 tyX4_ok w_32 w_84 w_4 rfl (fun j hj => by rcases (show j = 0 ∨ j = 1 ∨ j = 2 by omega) with rfl | rfl | rfl <;> rfl) (by omega) (Or.inl (by decide)) (by omega) (by omega) dX10_init_79 rfl ?_
  show AW E 72 b 37 36 2280 _ 82 [some (.ref b), some (.int 3), none] [.ref (b + 36), .int 3, .ref (b + 2)] _
  refine A_dup C 83 dX10_init_82 rfl rfl ?_
  refine A_init C hJ 86 (n0 := 36) (nA := 0) (As := []) (st := [.ref (b + 36), .int 3, .ref (b + 2)]) i_X4_init ⟨w_87, by decide +kernel, by decide +kernel, by decide +kernel, by decide⟩ (gNB_of w_85 rfl) w_4 w_86 rfl (by omega) (by omega) (by omega) (by omega) (by decide) (by decide) rfl rfl rfl (Nat.le_of_ble_eq_true rfl) rfl dX10_init_83 rfl ?_
  show AW E 72 b 38 37 2320 _ 86 [some (.ref b), some (.int 3), none] [.ref (b + 36), .int 3, .ref (b + 2)] _
  refine A_aast (i' := 3) (t0 := 2) (k := 2) (q := 36) (f := (va_up (va_up (va_up (fun _ => none) 0 (some (b + 30))) 1 (some (b + 32))) 2 (some (b + 34)))) C 87 rfl (by decide) (by decide) (by decide) (by decide) (by decide) rfl rfl rfl rfl dX10_init_86 rfl ?_
  refine A_iinc (w := 1) C 90 dX10_init_87 rfl rfl rfl rfl (fun x87_187 ex87_187 => ?_)
  obtain rfl : x87_187 = 4 := ex87_187.trans (by decide)
  show AW E 72 b 38 37 2320 _ 90 [some (.ref b), some (.int 4), none] [] _
  refine A_goto C 69 dX10_init_90 rfl ?_
  refine A_iload_n (i := 1) C 70 dX10_init_69 rfl rfl rfl ?_
  refine A_iconst (v := 4) C 71 dX10_init_70 rfl rfl ?_
  refine A_icmp_ge C 93 74 dX10_init_71 rfl rfl (fun _ => ?_) (fun c => absurd c (by decide))
  refine A_bipush (v := 6) C 95 dX10_init_93 rfl rfl ?_
  refine A_newq (N' := 6) (t0 := 3) C 98 rfl (by decide) w_102 hJ.2.2.2.2 rfl (by omega) (Or.inl (by decide)) (by omega) (by omega) dX10_init_95 rfl ?_
  show AW E 72 b 39 38 2326 _ 98 [some (.ref b), some (.int 4), none] [.ref (b + 38)] _
  refine A_dup C 99 dX10_init_98 rfl rfl ?_
  refine A_iconst (v := 0) C 100 dX10_init_99 rfl rfl ?_
  refine A_new (ci := 0) (fs := []) (ty := tyX0) C 103 (fun _ h => absurd h List.not_mem_nil) tyX0_ok w_102 w_104 w_5 rfl (fun j hj => absurd hj (by omega)) (by omega) (Or.inl (by decide)) (by omega) (by omega) dX10_init_100 rfl ?_
  show AW E 72 b 40 39 2326 _ 103 [some (.ref b), some (.int 4), none] [.ref (b + 39), .int 0, .ref (b + 38), .ref (b + 38)] _
  refine A_dup C 104 dX10_init_103 rfl rfl ?_
  refine A_init C hJ 107 (n0 := 39) (nA := 0) (As := []) (st := [.ref (b + 39), .int 0, .ref (b + 38), .ref (b + 38)]) (i_X0_init 0) ⟨w_107, by decide +kernel, by decide +kernel, by decide +kernel, by decide⟩ (gNB_of w_105 rfl) w_5 w_106 rfl (by omega) (by omega) (by omega) (by omega) (by decide) (by decide) rfl rfl rfl (Nat.le_of_ble_eq_true rfl) rfl dX10_init_104 rfl ?_
  show AW E 72 b 40 39 2326 _ 107 [some (.ref b), some (.int 4), none] [.ref (b + 39), .int 0, .ref (b + 38), .ref (b + 38)] _
  refine A_aast (i' := 0) (t0 := 3) (k := 38) (q := 39) (f := (fun _ => none)) C 108 rfl (by decide) (by decide) (by decide) (by decide) (by decide) rfl rfl rfl rfl dX10_init_107 rfl ?_
  refine A_dup C 109 dX10_init_108 rfl rfl ?_
  refine A_iconst (v := 1) C 110 dX10_init_109 rfl rfl ?_
  refine A_new (ci := 3) (fs := []) (ty := tyX3) C 113 (fun _ h => absurd h List.not_mem_nil) tyX3_ok w_110 w_111 w_6 rfl (fun j hj => absurd hj (by omega)) (by omega) (Or.inl (by decide)) (by omega) (by omega) dX10_init_110 rfl ?_
  show AW E 72 b 41 40 2326 _ 113 [some (.ref b), some (.int 4), none] [.ref (b + 40), .int 1, .ref (b + 38), .ref (b + 38)] _
  refine A_dup C 114 dX10_init_113 rfl rfl ?_
  refine A_init C hJ 117 (n0 := 40) (nA := 0) (As := []) (st := [.ref (b + 40), .int 1, .ref (b + 38), .ref (b + 38)]) (i_X3_init 3) ⟨w_114, by decide +kernel, by decide +kernel, by decide +kernel, by decide⟩ (gNB_of w_112 rfl) w_6 w_113 rfl (by omega) (by omega) (by omega) (by omega) (by decide) (by decide) rfl rfl rfl (Nat.le_of_ble_eq_true rfl) rfl dX10_init_114 rfl ?_
  show AW E 72 b 41 40 2326 _ 117 [some (.ref b), some (.int 4), none] [.ref (b + 40), .int 1, .ref (b + 38), .ref (b + 38)] _
  refine A_aastO (i' := 1) (t0 := 3) (k := 38) (q := 40) (f := (va_up (fun _ => none) 0 (some (b + 39)))) (r := (RX3, TX3, 0)) (Cn := RX0) C 118 rfl (by decide) (by decide) (by decide) (by decide) (by decide) rfl (hJ.2.1 _ (gCB_of w_1254a rfl)) rfl rfl rfl dX10_init_117 rfl ?_
  refine A_dup C 119 dX10_init_118 rfl rfl ?_
  refine A_iconst (v := 2) C 120 dX10_init_119 rfl rfl ?_
  refine A_new (ci := 1) (fs := []) (ty := tyX1) C 123 (fun _ h => absurd h List.not_mem_nil) tyX1_ok w_117 w_118 w_7 rfl (fun j hj => absurd hj (by omega)) (by omega) (Or.inl (by decide)) (by omega) (by omega) dX10_init_120 rfl ?_
  show AW E 72 b 42 41 2326 _ 123 [some (.ref b), some (.int 4), none] [.ref (b + 41), .int 2, .ref (b + 38), .ref (b + 38)] _
  refine A_dup C 124 dX10_init_123 rfl rfl ?_
  refine A_init C hJ 127 (n0 := 41) (nA := 0) (As := []) (st := [.ref (b + 41), .int 2, .ref (b + 38), .ref (b + 38)]) (i_X1_init 1) ⟨w_121, by decide +kernel, by decide +kernel, by decide +kernel, by decide⟩ (gNB_of w_119 rfl) w_7 w_120 rfl (by omega) (by omega) (by omega) (by omega) (by decide) (by decide) rfl rfl rfl (Nat.le_of_ble_eq_true rfl) rfl dX10_init_124 rfl ?_
  show AW E 72 b 42 41 2326 _ 127 [some (.ref b), some (.int 4), none] [.ref (b + 41), .int 2, .ref (b + 38), .ref (b + 38)] _
  refine A_aastO (i' := 2) (t0 := 3) (k := 38) (q := 41) (f := (va_up (va_up (fun _ => none) 0 (some (b + 39))) 1 (some (b + 40)))) (r := (RX1, TX1, 0)) (Cn := RX0) C 128 rfl (by decide) (by decide) (by decide) (by decide) (by decide) rfl (hJ.2.1 _ (gCB_of w_1255a rfl)) rfl rfl rfl dX10_init_127 rfl ?_
  refine A_dup C 129 dX10_init_128 rfl rfl ?_
  refine A_iconst (v := 3) C 130 dX10_init_129 rfl rfl ?_
  refine A_new (ci := 8) (fs := []) (ty := tyX8) C 133 (fun _ h => absurd h List.not_mem_nil) tyX8_ok w_124 w_125 w_8 rfl (fun j hj => absurd hj (by omega)) (by omega) (Or.inl (by decide)) (by omega) (by omega) dX10_init_130 rfl ?_
  show AW E 72 b 43 42 2326 _ 133 [some (.ref b), some (.int 4), none] [.ref (b + 42), .int 3, .ref (b + 38), .ref (b + 38)] _
  refine A_dup C 134 dX10_init_133 rfl rfl ?_
  refine A_init C hJ 137 (n0 := 42) (nA := 0) (As := []) (st := [.ref (b + 42), .int 3, .ref (b + 38), .ref (b + 38)]) (i_X8_init 8) ⟨w_128, by decide +kernel, by decide +kernel, by decide +kernel, by decide⟩ (gNB_of w_126 rfl) w_8 w_127 rfl (by omega) (by omega) (by omega) (by omega) (by decide) (by decide) rfl rfl rfl (Nat.le_of_ble_eq_true rfl) rfl dX10_init_134 rfl ?_
  show AW E 72 b 43 42 2326 _ 137 [some (.ref b), some (.int 4), none] [.ref (b + 42), .int 3, .ref (b + 38), .ref (b + 38)] _
  refine A_aastO (i' := 3) (t0 := 3) (k := 38) (q := 42) (f := (va_up (va_up (va_up (fun _ => none) 0 (some (b + 39))) 1 (some (b + 40))) 2 (some (b + 41)))) (r := (RX8, TX8, 0)) (Cn := RX0) C 138 rfl (by decide) (by decide) (by decide) (by decide) (by decide) rfl (hJ.2.1 _ (gCB_of w_1256a rfl)) rfl rfl rfl dX10_init_137 rfl ?_
  refine A_dup C 139 dX10_init_138 rfl rfl ?_
  refine A_iconst (v := 4) C 140 dX10_init_139 rfl rfl ?_
  refine A_new (ci := 2) (fs := []) (ty := tyX2) C 143 (fun _ h => absurd h List.not_mem_nil) tyX2_ok w_131 w_132 w_9 rfl (fun j hj => absurd hj (by omega)) (by omega) (Or.inl (by decide)) (by omega) (by omega) dX10_init_140 rfl ?_
  show AW E 72 b 44 43 2326 _ 143 [some (.ref b), some (.int 4), none] [.ref (b + 43), .int 4, .ref (b + 38), .ref (b + 38)] _
  refine A_dup C 144 dX10_init_143 rfl rfl ?_
  refine A_init C hJ 147 (n0 := 43) (nA := 0) (As := []) (st := [.ref (b + 43), .int 4, .ref (b + 38), .ref (b + 38)]) (i_X2_init 2) ⟨w_135, by decide +kernel, by decide +kernel, by decide +kernel, by decide⟩ (gNB_of w_133 rfl) w_9 w_134 rfl (by omega) (by omega) (by omega) (by omega) (by decide) (by decide) rfl rfl rfl (Nat.le_of_ble_eq_true rfl) rfl dX10_init_144 rfl ?_
  show AW E 72 b 44 43 2326 _ 147 [some (.ref b), some (.int 4), none] [.ref (b + 43), .int 4, .ref (b + 38), .ref (b + 38)] _
  refine A_aastO (i' := 4) (t0 := 3) (k := 38) (q := 43) (f := (va_up (va_up (va_up (va_up (fun _ => none) 0 (some (b + 39))) 1 (some (b + 40))) 2 (some (b + 41))) 3 (some (b + 42)))) (r := (RX2, TX2, 0)) (Cn := RX0) C 148 rfl (by decide) (by decide) (by decide) (by decide) (by decide) rfl (hJ.2.1 _ (gCB_of w_1257a rfl)) rfl rfl rfl dX10_init_147 rfl ?_
  refine A_dup C 149 dX10_init_148 rfl rfl ?_
  refine A_iconst (v := 5) C 150 dX10_init_149 rfl rfl ?_
  refine A_new (ci := 5) (fs := []) (ty := tyX5) C 153 (fun _ h => absurd h List.not_mem_nil) tyX5_ok w_138 w_139 w_10 rfl (fun j hj => absurd hj (by omega)) (by omega) (Or.inl (by decide)) (by omega) (by omega) dX10_init_150 rfl ?_
  show AW E 72 b 45 44 2326 _ 153 [some (.ref b), some (.int 4), none] [.ref (b + 44), .int 5, .ref (b + 38), .ref (b + 38)] _
  refine A_dup C 154 dX10_init_153 rfl rfl ?_
  refine A_init C hJ 157 (n0 := 44) (nA := 0) (As := []) (st := [.ref (b + 44), .int 5, .ref (b + 38), .ref (b + 38)]) (i_X5_init 5) ⟨w_142, by decide +kernel, by decide +kernel, by decide +kernel, by decide⟩ (gNB_of w_140 rfl) w_10 w_141 rfl (by omega) (by omega) (by omega) (by omega) (by decide) (by decide) rfl rfl rfl (Nat.le_of_ble_eq_true rfl) rfl dX10_init_154 rfl ?_
  show AW E 72 b 45 44 2326 _ 157 [some (.ref b), some (.int 4), none] [.ref (b + 44), .int 5, .ref (b + 38), .ref (b + 38)] _
  refine A_aastO (i' := 5) (t0 := 3) (k := 38) (q := 44) (f := (va_up (va_up (va_up (va_up (va_up (fun _ => none) 0 (some (b + 39))) 1 (some (b + 40))) 2 (some (b + 41))) 3 (some (b + 42))) 4 (some (b + 43)))) (r := (RX5, TX5, 0)) (Cn := RX0) C 158 rfl (by decide) (by decide) (by decide) (by decide) (by decide) rfl (hJ.2.1 _ (gCB_of w_1258a rfl)) rfl rfl rfl dX10_init_157 rfl ?_
  refine A_astore_n (i := 1) (L' := [some (.ref b), some (.ref (b + 38)), none]) C 159 dX10_init_158 rfl rfl (Nat.le_of_ble_eq_true rfl) rfl rfl ?_
  refine A_aload_n (i := 0) C 160 dX10_init_159 rfl rfl rfl ?_
  refine A_new (ci := 9) (fs := [.null, .null, .int 0, .int 0, .int 0, .int 0, .int 0, .null, .null, .null, .null, .null, .null, .null, .null]) (ty := tyX9) C 163 inX9 tyX9_ok w_145 w_146 w_11 rfl (fun j hj => by rcases (show j = 0 ∨ j = 1 ∨ j = 2 ∨ j = 3 ∨ j = 4 ∨ j = 5 ∨ j = 6 ∨ j = 7 ∨ j = 8 ∨ j = 9 ∨ j = 10 ∨ j = 11 ∨ j = 12 ∨ j = 13 ∨ j = 14 by omega) with rfl | rfl | rfl | rfl | rfl | rfl | rfl | rfl | rfl | rfl | rfl | rfl | rfl | rfl | rfl <;> rfl) (by omega) (Or.inl (by decide)) (by omega) (by omega) dX10_init_160 rfl ?_
  show AW E 72 b 46 45 2341 _ 163 [some (.ref b), some (.ref (b + 38)), none] [.ref (b + 45), .ref b] _
  refine A_dup C 164 dX10_init_163 rfl rfl ?_
  refine A_aload_n (i := 0) C 165 dX10_init_164 rfl rfl rfl ?_
  refine A_get (fs := [.ref (b + 1), .ref (b + 2), .ref (b + 3), .null, .null, .null, .ref (b + 5), .int 0, .int 0]) (v := .ref (b + 1)) C 168 FL_10_11 (k := 0) (by decide) rfl rfl dX10_init_165 rfl ?_
  refine A_aload_n (i := 1) C 169 dX10_init_168 rfl rfl rfl ?_
  refine A_init C hJ 172 (n0 := 45) (nA := 2) (As := [.ref (b + 1), .ref (b + 38)]) (st := [.ref (b + 45), .ref b]) (i_X9_init (b + 1) (b + 38)) ⟨w_149, by decide +kernel, by decide +kernel, by decide +kernel, by decide⟩ (gNB_of w_147 rfl) w_11 w_148 rfl (by omega) (by omega) (by omega) (by omega) (by decide) (by decide) rfl rfl rfl (Nat.le_of_ble_eq_true rfl) rfl dX10_init_169 rfl ?_
  show AW E 72 b 54 53 2393 _ 172 [some (.ref b), some (.ref (b + 38)), none] [.ref (b + 45), .ref b] _
  refine A_putF (fs := [.ref (b + 1), .ref (b + 2), .ref (b + 3), .null, .null, .null, .ref (b + 5), .int 0, .int 0]) C hin 175 FL_10_57 tyX10_ok nmX10 rfl rfl (tyX10_ok 3 (by decide)) ⟨rfl, rfl⟩ (k := 0) (by decide) (by decide) rfl (Nat.le_of_ble_eq_true rfl) dX10_init_172 rfl ?_
  refine A_aload_n (i := 0) C 176 dX10_init_175 rfl rfl rfl ?_
  refine A_new (ci := 9) (fs := [.null, .null, .int 0, .int 0, .int 0, .int 0, .int 0, .null, .null, .null, .null, .null, .null, .null, .null]) (ty := tyX9) C 179 inX9 tyX9_ok w_145 w_146 w_11 rfl (fun j hj => by rcases (show j = 0 ∨ j = 1 ∨ j = 2 ∨ j = 3 ∨ j = 4 ∨ j = 5 ∨ j = 6 ∨ j = 7 ∨ j = 8 ∨ j = 9 ∨ j = 10 ∨ j = 11 ∨ j = 12 ∨ j = 13 ∨ j = 14 by omega) with rfl | rfl | rfl | rfl | rfl | rfl | rfl | rfl | rfl | rfl | rfl | rfl | rfl | rfl | rfl <;> rfl) (by omega) (Or.inl (by decide)) (by omega) (by omega) dX10_init_176 rfl ?_
  show AW E 72 b 55 54 2408 _ 179 [some (.ref b), some (.ref (b + 38)), none] [.ref (b + 54), .ref b] _
  refine A_dup C 180 dX10_init_179 rfl rfl ?_
  refine A_aload_n (i := 0) C 181 dX10_init_180 rfl rfl rfl ?_
  refine A_get (fs := [.ref (b + 1), .ref (b + 2), .ref (b + 3), .ref (b + 45), .null, .null, .ref (b + 5), .int 0, .int 0]) (v := .ref (b + 1)) C 184 FL_10_11 (k := 0) (by decide) rfl rfl dX10_init_181 rfl ?_
  refine A_aload_n (i := 1) C 185 dX10_init_184 rfl rfl rfl ?_
  refine A_init C hJ 188 (n0 := 54) (nA := 2) (As := [.ref (b + 1), .ref (b + 38)]) (st := [.ref (b + 54), .ref b]) (i_X9_init (b + 1) (b + 38)) ⟨w_149, by decide +kernel, by decide +kernel, by decide +kernel, by decide⟩ (gNB_of w_147 rfl) w_11 w_148 rfl (by omega) (by omega) (by omega) (by omega) (by decide) (by decide) rfl rfl rfl (Nat.le_of_ble_eq_true rfl) rfl dX10_init_185 rfl ?_
  show AW E 72 b 63 62 2460 _ 188 [some (.ref b), some (.ref (b + 38)), none] [.ref (b + 54), .ref b] _
  refine A_putF (fs := [.ref (b + 1), .ref (b + 2), .ref (b + 3), .ref (b + 45), .null, .null, .ref (b + 5), .int 0, .int 0]) C hin 191 FL_10_61 tyX10_ok nmX10 rfl rfl (tyX10_ok 4 (by decide)) ⟨rfl, rfl⟩ (k := 0) (by decide) (by decide) rfl (Nat.le_of_ble_eq_true rfl) dX10_init_188 rfl ?_
  refine A_aload_n (i := 0) C 192 dX10_init_191 rfl rfl rfl ?_
  refine A_new (ci := 9) (fs := [.null, .null, .int 0, .int 0, .int 0, .int 0, .int 0, .null, .null, .null, .null, .null, .null, .null, .null]) (ty := tyX9) C 195 inX9 tyX9_ok w_145 w_146 w_11 rfl (fun j hj => by rcases (show j = 0 ∨ j = 1 ∨ j = 2 ∨ j = 3 ∨ j = 4 ∨ j = 5 ∨ j = 6 ∨ j = 7 ∨ j = 8 ∨ j = 9 ∨ j = 10 ∨ j = 11 ∨ j = 12 ∨ j = 13 ∨ j = 14 by omega) with rfl | rfl | rfl | rfl | rfl | rfl | rfl | rfl | rfl | rfl | rfl | rfl | rfl | rfl | rfl <;> rfl) (by omega) (Or.inl (by decide)) (by omega) (by omega) dX10_init_192 rfl ?_
  show AW E 72 b 64 63 2475 _ 195 [some (.ref b), some (.ref (b + 38)), none] [.ref (b + 63), .ref b] _
  refine A_dup C 196 dX10_init_195 rfl rfl ?_
  refine A_aload_n (i := 0) C 197 dX10_init_196 rfl rfl rfl ?_
  refine A_get (fs := [.ref (b + 1), .ref (b + 2), .ref (b + 3), .ref (b + 45), .ref (b + 54), .null, .ref (b + 5), .int 0, .int 0]) (v := .ref (b + 1)) C 200 FL_10_11 (k := 0) (by decide) rfl rfl dX10_init_197 rfl ?_
  refine A_aload_n (i := 1) C 201 dX10_init_200 rfl rfl rfl ?_
  refine A_init C hJ 204 (n0 := 63) (nA := 2) (As := [.ref (b + 1), .ref (b + 38)]) (st := [.ref (b + 63), .ref b]) (i_X9_init (b + 1) (b + 38)) ⟨w_149, by decide +kernel, by decide +kernel, by decide +kernel, by decide⟩ (gNB_of w_147 rfl) w_11 w_148 rfl (by omega) (by omega) (by omega) (by omega) (by decide) (by decide) rfl rfl rfl (Nat.le_of_ble_eq_true rfl) rfl dX10_init_201 rfl ?_
  show AW E 72 b 72 71 2527 _ 204 [some (.ref b), some (.ref (b + 38)), none] [.ref (b + 63), .ref b] _
  refine A_putF (fs := [.ref (b + 1), .ref (b + 2), .ref (b + 3), .ref (b + 45), .ref (b + 54), .null, .ref (b + 5), .int 0, .int 0]) C hin 207 FL_10_64 tyX10_ok nmX10 rfl rfl (tyX10_ok 5 (by decide)) ⟨rfl, rfl⟩ (k := 0) (by decide) (by decide) rfl (Nat.le_of_ble_eq_true rfl) dX10_init_204 rfl ?_
  refine A_toG (S := SC) (σ := s_i0) rfl had hck.symm hcs.symm ?_ s_i0_z kk
  rw [had]
  exact r_cons (fun H h => h) (r_cons (fun H h => at_q (fun j hj => by rcases (show j = 0 ∨ j = 1 ∨ j = 2 ∨ j = 3 ∨ j = 4 ∨ j = 5 by omega) with rfl | rfl | rfl | rfl | rfl | rfl <;> rfl) h) (r_cons (fun H h => at_q (fun j hj => by rcases (show j = 0 ∨ j = 1 ∨ j = 2 ∨ j = 3 by omega) with rfl | rfl | rfl | rfl <;> rfl) h) (r_cons (fun H h => by
    have hv : intoV (fun k => b + k) (s_i0 3 6) = .null := if_pos rfl
    have he : SC.2.2.1 (e_cA E) (fun k => b + k) s_i0 3 = .inr (6, [.ref (b + 4), .int 0, .int 0, .int 0, .int 0, .int 0, .null]) := by
      show (Sum.inr (6, fTp (fun k => b + k) s_i0) : va_E) = _
      unfold fTp
      rw [hv]
      rfl
    rw [he]
    exact h) (r_cons (fun H h => h) (r_cons (fun H h => h) (r_cons (fun H h => h) (r_cons (fun H h => h) (r_cons (fun H h => h) (r_cons (fun H h => h) (r_cons (fun H h => h) (r_cons (fun H h => h) (r_cons (fun H h => h) (r_cons (fun H h => h) (r_cons (fun H h => h) (r_cons (fun H h => h) (r_cons (fun H h => h) (r_cons (fun H h => h) (r_cons (fun H h => h) (r_cons (fun H h => h) (r_cons (fun H h => h) (r_cons (fun H h => h) (r_cons (fun H h => h) (r_cons (fun H h => h) (r_cons (fun H h => h) (r_cons (fun H h => h) (r_cons (fun H h => h) (r_cons (fun H h => h) (r_cons (fun H h => h) (r_cons (fun H h => h) (r_cons (fun H h => h) (r_cons (fun H h => h) (r_cons (fun H h => h) (r_cons (fun H h => h) (r_cons (fun H h => h) (r_cons (fun H h => h) (r_cons (fun H h => h) (r_cons (fun H h => h) (r_cons (fun H h => at_q (fun j hj => by rcases (show j = 0 ∨ j = 1 ∨ j = 2 ∨ j = 3 ∨ j = 4 ∨ j = 5 by omega) with rfl | rfl | rfl | rfl | rfl | rfl <;> rfl) h) (r_cons (fun H h => h) (r_cons (fun H h => h) (r_cons (fun H h => h) (r_cons (fun H h => h) (r_cons (fun H h => h) (r_cons (fun H h => h) (r_cons (fun H h => h) (r_cons (fun H h => h) (r_cons (fun H h => h) (r_cons (fun H h => h) (r_cons (fun H h => h) (r_cons (fun H h => h) (r_cons (fun H h => h) (r_cons (fun H h => h) (r_cons (fun H h => h) (r_cons (fun H h => h) (r_cons (fun H h => h) (r_cons (fun H h => h) (r_cons (fun H h => h) (r_cons (fun H h => h) (r_cons (fun H h => h) (r_cons (fun H h => h) (r_cons (fun H h => h) (r_cons (fun H h => h) (r_cons (fun H h => h) (r_cons (fun H h => h) (r_cons (fun H h => h) (r_cons (fun H h => h) (r_cons (fun H h => h) (r_cons (fun H h => h) (r_cons (fun H h => h) (r_cons (fun H h => h) (r_cons (fun H h => h) (r_end))))))))))))))))))))))))))))))))))))))))))))))))))))))))))))))))))))))))
theorem i_b34 : ∀ j, j < 34 → (s_b 0 j).toNatClampNeg < 256 ∧ s_b 0 j = nI (s_b 0 j).toNatClampNeg := by decide +kernel
set_option maxHeartbeats 4000000 in
set_option maxRecDepth 100000 in
theorem c_X10_tail {E : gE} {d : Nat} (C : gCx SC E RX10 cX10_init 3 none d) (hd : 60 ≤ d) : GW SC E (gFin SC E (gQv SC (fun s' => RC tX0 P00 B00 s'))) 207 [some (.ref (e_ad E 0)), some (.ref (e_ad E 38)), none] [] s_i0 := by
  have fr : ∀ k, k ≠ 3 → k ≠ 4 → s_i0 k = s_i0 k := fun _ _ _ => rfl
  have tz : s_i0 3 1 = nI 0 := rfl
  have hy : ∀ j, j < 0 → s_i0 4 j = s_b 0 j := fun j hj => absurd hj (by omega)
  refine G_iconst (v := 0) C 208 dX10_init_207 rfl rfl ?_
  refine G_istore_n (i := 2) (L' := [some (.ref (e_ad E 0)), some (.ref (e_ad E 38)), some (.int 0)]) C 209 dX10_init_208 rfl rfl (Nat.le_of_ble_eq_true rfl) rfl rfl ?_
  have L209 : ∀ (f209 : Nat) (k : Nat) (w : Int32) (sl209 : gS) (Ew : w = nI k) (hk : k ≤ 34) (frl209 : ∀ k, k ≠ 3 → k ≠ 4 → sl209 k = s_i0 k) (tzl209 : sl209 3 1 = nI k) (hyl209 : ∀ j, j < k → sl209 4 j = s_b 0 j), 34 < k + f209 → GW SC E (gFin SC E (gQv SC (fun s' => RC tX0 P00 B00 s'))) 209 [some (.ref (e_ad E 0)), some (.ref (e_ad E 38)), some (.int w)] [] sl209 := by
    intro f209
    induction f209 with
    | zero =>
      intro k w sl209 Ew hk frl209 tzl209 hyl209 hf209
      exact absurd hf209 (by omega)
    | succ f209 ih209 =>
      intro k w sl209 Ew hk frl209 tzl209 hyl209 hf209
      refine G_iload_n (i := 2) C 210 dX10_init_209 rfl rfl rfl ?_
      refine G_ldcS0 C 212 dX10_init_210 rfl ?_
      refine G_calli 215 (G_runVz (i := 0) C Kc_J0_length_8abf5 KV_X10_69 (by omega) (by decide) rfl (c_J0_length 0 0 (by decide) sl209) rfl rfl rfl (Nat.le_of_ble_eq_true rfl) rfl dX10_init_212) rfl (fun x212 s212 h212 => ?_)
      obtain ⟨es212, h212⟩ := h212
      have es212 := es212.symm
      subst es212
      refine G_icmp_ge C 237 218 dX10_init_215 rfl rfl (fun c215 => ?_) (fun c215 => ?_)
      ·
        have n215 : ¬ k < 34 := fun hq_ => c215 ((g_ltN (a := k) (b := 34) (hx := Ew) (hy := h212) (by omega) (by omega)).mpr hq_)
        obtain rfl : k = 34 := by omega
        refine G_aload_n (i := 0) C 238 dX10_init_237 rfl rfl rfl ?_
        refine X10_24g C 241 dX10_init_238 rfl ?_
        refine G_aload_n (i := 0) C 242 dX10_init_241 rfl rfl rfl ?_
        refine X10_11g C 245 dX10_init_242 rfl ?_
        refine G_iconst (v := 0) C 246 dX10_init_245 rfl rfl ?_
        refine G_aald (r := (6 + 4 * 0)) C 247 (by decide) (eC1 _ _ _) (fun _ => rfl) (0) rfl (by omega) (by decide) rfl dX10_init_246 rfl ?_
        refine G_calli 250 (G_runV C Kc_X6_read KV_X10_83 (by omega) (by decide) (eTp _ _ _) rfl (c_X6_read 0 (sl209 4) 34 0 sl209 rfl tzl209 (by decide) (by decide) (fun j hj => ⟨(s_b 0 j).toNatClampNeg, (i_b34 j hj).1, by rw [hyl209 j hj]; exact (i_b34 j hj).2⟩)) rfl rfl rfl (Nat.le_of_ble_eq_true rfl) rfl dX10_init_247) rfl (fun x247 s247 h247 => ?_)
        refine G_pop C 251 dX10_init_250 rfl rfl ?_
        refine G_aload_n (i := 0) C 252 dX10_init_251 rfl rfl rfl ?_
        refine X10_24g C 255 dX10_init_252 rfl ?_
        refine G_iconst (v := 0) C 256 dX10_init_255 rfl rfl ?_
        refine X10_87p C 259 dX10_init_256 rfl (fun s256 es256 => ?_)
        refine G_aload_n (i := 0) C 260 dX10_init_259 rfl rfl rfl ?_
        refine G_iconst (v := 1) C 261 dX10_init_260 rfl rfl ?_
        refine X10_91p C 264 dX10_init_261 rfl (fun s261 es261 => ?_)
        exact G_vret C dX10_init_264 (i_fin frl209 hyl209 h247 es256 es261)
      ·
        have n215 : k < 34 := (g_ltN (a := k) (b := 34) (hx := Ew) (hy := h212) (by omega) (by omega)).mp c215
        refine G_aload_n (i := 0) C 219 dX10_init_218 rfl rfl rfl ?_
        refine X10_24g C 222 dX10_init_219 rfl ?_
        refine G_ldcS0 C 224 dX10_init_222 rfl ?_
        refine G_iload_n (i := 2) C 225 dX10_init_224 rfl rfl rfl ?_
        refine G_calli 228 (G_runVz (i := 0) C Kc_J0_charAt_5068e KV_X10_75 (by omega) (by decide) rfl (c_J0_charAt 0 0 (k) (by decide) w Ew (show k < 34 by omega) sl209) rfl rfl rfl (Nat.le_of_ble_eq_true rfl) rfl dX10_init_225) rfl (fun x225 s225 h225 => ?_)
        obtain ⟨es225, h225⟩ := h225
        have es225 := es225.symm
        subst es225
        refine G_callv 231 (G_runV C Kc_X6_add KV_X10_79 (by omega) (by decide) (eTp _ _ _) rfl (c_X6_add 0 sl209 k tzl209 (by omega) x225) rfl rfl rfl (Nat.le_of_ble_eq_true rfl) rfl dX10_init_228) rfl (fun s228 h228 => ?_)
        have fr_1 : ∀ k, k ≠ 3 → k ≠ 4 → s228 k = s_i0 k := fun q h3 h4 => by rw [h228, g_up_n h3, g_up_n h4]; exact frl209 q h3 h4
        have tz_1 : s228 3 1 = nI (k + 1) := by rw [h228, g_up_sj, if_pos rfl, tzl209, show (1 : Int32) = nI 1 from rfl, nI_add]
        have hy_1 : ∀ j, j < k + 1 → s228 4 j = s_b 0 j := fun j hj => by
          rw [h228, g_up_n (by decide), g_up_sj]
          by_cases e : j = k
          · rw [if_pos e, e]; exact h225
          · rw [if_neg e]; exact hyl209 j (by omega)
        refine G_iinc (w := 1) C 234 dX10_init_231 rfl rfl rfl rfl (fun x231 ex231 => ?_)
        have Nx231 : x231 = nI (k + 1) := g_addN ex231 Ew rfl
        show GW SC E _ 234 [some (.ref (e_ad E 0)), some (.ref (e_ad E 38)), some (.int x231)] [] s228
        refine G_goto C 209 dX10_init_234 rfl ?_
        exact ih209 (k + 1) x231 s228 (g_cn (a := (k + 1)) Nx231 (by first | rfl | omega | (simp only [List.length_cons, List.length_drop]; done) | (simp only [List.length_cons, List.length_drop]; omega))) (by omega) fr_1 (tz_1) (hy_1) (by omega)
  exact L209 (34 + 1) 0 0 s_i0 (g_cn (a := 0) rfl (by first | rfl | omega)) (by omega) fr (tz) (hy) (by omega)
def kPre (e0 : va_E) (D : va_G) (cA : Nat → ClassId) (b : Nat) (J : State → Prop) (U : State) : Prop := U.heap.size = b + 1 ∧ va_P D vwCl [(b, e0)] U.heap ∧ va_K D vwCl (gT cA) U ∧ kJ U ∧ J U
theorem gInj_b {S : gSd} (b : Nat) : gInj S (fun k => b + k) := fun i j _ _ e => by
  have e2 : b + i = b + j := e
  omega
set_option maxHeartbeats 4000000 in
set_option maxRecDepth 100000 in
theorem k_X10_init (l : Launch) (D : va_G) (cA : Nat → ClassId) (b : Nat) (z : Nat → Nat) : Met l yX10_init (.code yX10_init cX10_init 3 none :: gTB) { frames := 60, cells := 71, slots := 2527, locals := 3840 } (va_Pc [.ref b] (kPre (.inr (10, [.null, .null, .null, .null, .null, .null, .null, .int 0, .int 0])) D cA b (fun U => SCJ z (gA SC (fun k => b + k)) U U.heap))) (gQv SC (fun s' => RC tX0 P00 B00 s') D cA (fun k => b + k)) 71 2527 (gA SC (fun k => b + k)) := by
  refine g_ofWF (cc := cX10_init) (maxL := 3) (ret := none) (by decide +kernel) rfl ?_
  intro p e s m args below meth c s₁ B hml hv
  obtain ⟨rfl, hz, hP, hK, hJ, hS⟩ := hv
  have hts := atoms_spec (ws := .code yX10_init cX10_init 3 none :: gTB) B.pre
  rw [lg_entry_eq]
  generalize hE : ((p, l, e, { frames := 60, cells := 71, slots := 2527, locals := 3840 }, s, m, ([.ref b] : List Value).toArray, below, meth, c, D, cA, fun k => b + k, z, 71, 2527) : gE) = E
  have hts2 : ∀ w ∈ gTB, w.before ([.ref b] : List Value).toArray s = true := fun w hw => hts w (List.mem_cons_of_mem _ hw)
  have hown := findClass_of_methodNamed B.named
  have C : kCx E RX10 cX10_init 3 none := by subst hE; exact ⟨B.exec, B.bytes, hml, hown, hts2, B.returns, B.notSynchronized, hK⟩
  have G : gCx SC E RX10 cX10_init 3 none 60 := by subst hE; exact ⟨B.exec, B.bytes, hml, hown, hts2, B.returns, B.notSynchronized, hK, gInj_b b, hS, SC_ok, Nat.le_refl _, Nat.le_refl _, Nat.le_refl _, Nat.le_refl _⟩
  have T := c_X10_tail G (Nat.le_refl _)
  have had : e_ad E = fun k => b + k := by subst hE; rfl
  have A : AW E 72 b 1 0 0 (gFin SC E (gQv SC (fun s' => RC tX0 P00 B00 s'))) 0 [some (.ref b), none, none] [] (fun _ => .inr (10, [.null, .null, .null, .null, .null, .null, .null, .int 0, .int 0])) := by
    refine a_X10_init C (by subst hE; exact hJ) (by subst hE; exact (name_of_methodNamed B.named B.method).1) (by subst hE; exact Nat.le_refl _) (by subst hE; exact Nat.le_refl _) (by subst hE; exact Nat.le_refl _) (by subst hE; exact Nat.le_refl _) (by subst hE; exact hz) (by subst hE; rfl) (by subst hE; rfl) had ?_
    rw [had] at T
    exact T
  subst hE
  exact A s.heap [] _ (by
    intro k q hq
    obtain ⟨hk, rfl⟩ := cR_inv hq
    rw [show k = 0 by omega]
    exact hP 0 _ rfl) va_S.rf (show lv_has _ 3 (gl [some (.ref b), none, none] 0) from lv_entry [.ref b] (Nat.le_of_ble_eq_true rfl))
