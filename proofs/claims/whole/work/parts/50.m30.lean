theorem t_op_le : ∀ h : List Nat, t_op h ≤ h.length := by
  intro h
  induction h with
  | nil => exact Nat.le_refl _
  | cons c h ih =>
    unfold t_op
    simp only [List.length_cons]
    repeat' split
    all_goals omega
theorem dX11_eRead_0 : decode cX11_eRead 0 = .ok (.aload_n 0, 1) := by decide +kernel
theorem dX11_eRead_1 : decode cX11_eRead 1 = .ok (.iconst 0, 1) := by decide +kernel
theorem dX11_eRead_2 : decode cX11_eRead 2 = .ok (.putfield 118, 3) := by decide +kernel
theorem dX11_eRead_5 : decode cX11_eRead 5 = .ok (.aload_n 0, 1) := by decide +kernel
theorem dX11_eRead_6 : decode cX11_eRead 6 = .ok (.iconst 0, 1) := by decide +kernel
theorem dX11_eRead_7 : decode cX11_eRead 7 = .ok (.putfield 124, 3) := by decide +kernel
theorem dX11_eRead_10 : decode cX11_eRead 10 = .ok (.iconst 1, 1) := by decide +kernel
theorem dX11_eRead_11 : decode cX11_eRead 11 = .ok (.istore_n 1, 1) := by decide +kernel
theorem dX11_eRead_12 : decode cX11_eRead 12 = .ok (.iconst 1, 1) := by decide +kernel
theorem dX11_eRead_13 : decode cX11_eRead 13 = .ok (.istore_n 2, 1) := by decide +kernel
theorem dX11_eRead_14 : decode cX11_eRead 14 = .ok (.aload_n 0, 1) := by decide +kernel
theorem dX11_eRead_15 : decode cX11_eRead 15 = .ok (.invokevirtual 137, 3) := by decide +kernel
theorem dX11_eRead_18 : decode cX11_eRead 18 = .ok (.iload_n 1, 1) := by decide +kernel
theorem dX11_eRead_19 : decode cX11_eRead 19 = .ok (.ifCond .eq 131, 3) := by decide +kernel
theorem dX11_eRead_22 : decode cX11_eRead 22 = .ok (.aload_n 0, 1) := by decide +kernel
theorem dX11_eRead_23 : decode cX11_eRead 23 = .ok (.getfield 105, 3) := by decide +kernel
theorem dX11_eRead_26 : decode cX11_eRead 26 = .ok (.iconst 1, 1) := by decide +kernel
theorem dX11_eRead_27 : decode cX11_eRead 27 = .ok (.if_icmp .eq 11, 3) := by decide +kernel
theorem dX11_eRead_30 : decode cX11_eRead 30 = .ok (.aload_n 0, 1) := by decide +kernel
theorem dX11_eRead_31 : decode cX11_eRead 31 = .ok (.getfield 105, 3) := by decide +kernel
theorem dX11_eRead_34 : decode cX11_eRead 34 = .ok (.iconst 2, 1) := by decide +kernel
theorem dX11_eRead_35 : decode cX11_eRead 35 = .ok (.if_icmp .ne 40, 3) := by decide +kernel
theorem dX11_eRead_38 : decode cX11_eRead 38 = .ok (.aload_n 0, 1) := by decide +kernel
theorem dX11_eRead_39 : decode cX11_eRead 39 = .ok (.aload_n 0, 1) := by decide +kernel
theorem dX11_eRead_40 : decode cX11_eRead 40 = .ok (.getfield 105, 3) := by decide +kernel
theorem dX11_eRead_43 : decode cX11_eRead 43 = .ok (.iconst 1, 1) := by decide +kernel
theorem dX11_eRead_44 : decode cX11_eRead 44 = .ok (.if_icmp .ne 13, 3) := by decide +kernel
theorem dX11_eRead_47 : decode cX11_eRead 47 = .ok (.ldc 140, 2) := by decide +kernel
theorem dX11_eRead_49 : decode cX11_eRead 49 = .ok (.aload_n 0, 1) := by decide +kernel
theorem dX11_eRead_50 : decode cX11_eRead 50 = .ok (.getfield 108, 3) := by decide +kernel
theorem dX11_eRead_53 : decode cX11_eRead 53 = .ok (.iadd, 1) := by decide +kernel
theorem dX11_eRead_54 : decode cX11_eRead 54 = .ok (.goto 7, 3) := by decide +kernel
theorem dX11_eRead_57 : decode cX11_eRead 57 = .ok (.aload_n 0, 1) := by decide +kernel
theorem dX11_eRead_58 : decode cX11_eRead 58 = .ok (.getfield 108, 3) := by decide +kernel
theorem dX11_eRead_61 : decode cX11_eRead 61 = .ok (.invokevirtual 127, 3) := by decide +kernel
theorem dX11_eRead_64 : decode cX11_eRead 64 = .ok (.aload_n 0, 1) := by decide +kernel
theorem dX11_eRead_65 : decode cX11_eRead 65 = .ok (.bipush 7, 2) := by decide +kernel
theorem dX11_eRead_67 : decode cX11_eRead 67 = .ok (.invokevirtual 134, 3) := by decide +kernel
theorem dX11_eRead_70 : decode cX11_eRead 70 = .ok (.iconst 0, 1) := by decide +kernel
theorem dX11_eRead_71 : decode cX11_eRead 71 = .ok (.istore_n 1, 1) := by decide +kernel
theorem dX11_eRead_72 : decode cX11_eRead 72 = .ok (.goto (-58), 3) := by decide +kernel
theorem dX11_eRead_75 : decode cX11_eRead 75 = .ok (.aload_n 0, 1) := by decide +kernel
theorem dX11_eRead_76 : decode cX11_eRead 76 = .ok (.getfield 105, 3) := by decide +kernel
theorem dX11_eRead_79 : decode cX11_eRead 79 = .ok (.bipush 6, 2) := by decide +kernel
theorem dX11_eRead_81 : decode cX11_eRead 81 = .ok (.if_icmp .ne 18, 3) := by decide +kernel
theorem dX11_eRead_84 : decode cX11_eRead 84 = .ok (.iload_n 2, 1) := by decide +kernel
theorem dX11_eRead_85 : decode cX11_eRead 85 = .ok (.ifCond .eq 14, 3) := by decide +kernel
theorem dX11_eRead_88 : decode cX11_eRead 88 = .ok (.aload_n 0, 1) := by decide +kernel
theorem dX11_eRead_89 : decode cX11_eRead 89 = .ok (.bipush 13, 2) := by decide +kernel
theorem dX11_eRead_91 : decode cX11_eRead 91 = .ok (.invokevirtual 141, 3) := by decide +kernel
theorem dX11_eRead_94 : decode cX11_eRead 94 = .ok (.ifCond .ne (-80), 3) := by decide +kernel
theorem dX11_eRead_97 : decode cX11_eRead 97 = .ok (.iconst 0, 1) := by decide +kernel
theorem dX11_eRead_98 : decode cX11_eRead 98 = .ok (.ireturn, 1) := by decide +kernel
theorem dX11_eRead_99 : decode cX11_eRead 99 = .ok (.aload_n 0, 1) := by decide +kernel
theorem dX11_eRead_100 : decode cX11_eRead 100 = .ok (.getfield 105, 3) := by decide +kernel
theorem dX11_eRead_103 : decode cX11_eRead 103 = .ok (.bipush 45, 2) := by decide +kernel
theorem dX11_eRead_105 : decode cX11_eRead 105 = .ok (.if_icmp .ne 19, 3) := by decide +kernel
theorem dX11_eRead_108 : decode cX11_eRead 108 = .ok (.aload_n 0, 1) := by decide +kernel
theorem dX11_eRead_109 : decode cX11_eRead 109 = .ok (.bipush 19, 2) := by decide +kernel
theorem dX11_eRead_111 : decode cX11_eRead 111 = .ok (.invokevirtual 141, 3) := by decide +kernel
theorem dX11_eRead_114 : decode cX11_eRead 114 = .ok (.ifCond .ne 5, 3) := by decide +kernel
theorem dX11_eRead_117 : decode cX11_eRead 117 = .ok (.iconst 0, 1) := by decide +kernel
theorem dX11_eRead_118 : decode cX11_eRead 118 = .ok (.ireturn, 1) := by decide +kernel
theorem dX11_eRead_119 : decode cX11_eRead 119 = .ok (.iconst 0, 1) := by decide +kernel
theorem dX11_eRead_120 : decode cX11_eRead 120 = .ok (.istore_n 2, 1) := by decide +kernel
theorem dX11_eRead_121 : decode cX11_eRead 121 = .ok (.goto (-107), 3) := by decide +kernel
theorem dX11_eRead_124 : decode cX11_eRead 124 = .ok (.aload_n 0, 1) := by decide +kernel
theorem dX11_eRead_125 : decode cX11_eRead 125 = .ok (.getfield 105, 3) := by decide +kernel
theorem dX11_eRead_128 : decode cX11_eRead 128 = .ok (.bipush 40, 2) := by decide +kernel
theorem dX11_eRead_130 : decode cX11_eRead 130 = .ok (.if_icmp .ne 18, 3) := by decide +kernel
theorem dX11_eRead_133 : decode cX11_eRead 133 = .ok (.aload_n 0, 1) := by decide +kernel
theorem dX11_eRead_134 : decode cX11_eRead 134 = .ok (.iconst 0, 1) := by decide +kernel
theorem dX11_eRead_135 : decode cX11_eRead 135 = .ok (.invokevirtual 141, 3) := by decide +kernel
theorem dX11_eRead_138 : decode cX11_eRead 138 = .ok (.ifCond .ne 5, 3) := by decide +kernel
theorem dX11_eRead_141 : decode cX11_eRead 141 = .ok (.iconst 0, 1) := by decide +kernel
theorem dX11_eRead_142 : decode cX11_eRead 142 = .ok (.ireturn, 1) := by decide +kernel
theorem dX11_eRead_143 : decode cX11_eRead 143 = .ok (.iconst 1, 1) := by decide +kernel
theorem dX11_eRead_144 : decode cX11_eRead 144 = .ok (.istore_n 2, 1) := by decide +kernel
theorem dX11_eRead_145 : decode cX11_eRead 145 = .ok (.goto (-131), 3) := by decide +kernel
theorem dX11_eRead_148 : decode cX11_eRead 148 = .ok (.iconst 0, 1) := by decide +kernel
theorem dX11_eRead_149 : decode cX11_eRead 149 = .ok (.ireturn, 1) := by decide +kernel
theorem dX11_eRead_150 : decode cX11_eRead 150 = .ok (.aload_n 0, 1) := by decide +kernel
theorem dX11_eRead_151 : decode cX11_eRead 151 = .ok (.getfield 105, 3) := by decide +kernel
theorem dX11_eRead_154 : decode cX11_eRead 154 = .ok (.bipush 59, 2) := by decide +kernel
theorem dX11_eRead_156 : decode cX11_eRead 156 = .ok (.if_icmp .ne 21, 3) := by decide +kernel
theorem dX11_eRead_159 : decode cX11_eRead 159 = .ok (.aload_n 0, 1) := by decide +kernel
theorem dX11_eRead_160 : decode cX11_eRead 160 = .ok (.iconst 1, 1) := by decide +kernel
theorem dX11_eRead_161 : decode cX11_eRead 161 = .ok (.invokevirtual 134, 3) := by decide +kernel
theorem dX11_eRead_164 : decode cX11_eRead 164 = .ok (.aload_n 0, 1) := by decide +kernel
theorem dX11_eRead_165 : decode cX11_eRead 165 = .ok (.getfield 118, 3) := by decide +kernel
theorem dX11_eRead_168 : decode cX11_eRead 168 = .ok (.ifCond .ne 7, 3) := by decide +kernel
theorem dX11_eRead_171 : decode cX11_eRead 171 = .ok (.iconst 1, 1) := by decide +kernel
theorem dX11_eRead_172 : decode cX11_eRead 172 = .ok (.goto 4, 3) := by decide +kernel
theorem dX11_eRead_175 : decode cX11_eRead 175 = .ok (.iconst 0, 1) := by decide +kernel
theorem dX11_eRead_176 : decode cX11_eRead 176 = .ok (.ireturn, 1) := by decide +kernel
theorem dX11_eRead_177 : decode cX11_eRead 177 = .ok (.aload_n 0, 1) := by decide +kernel
theorem dX11_eRead_178 : decode cX11_eRead 178 = .ok (.getfield 105, 3) := by decide +kernel
theorem dX11_eRead_181 : decode cX11_eRead 181 = .ok (.bipush 41, 2) := by decide +kernel
theorem dX11_eRead_183 : decode cX11_eRead 183 = .ok (.if_icmp .ne 46, 3) := by decide +kernel
theorem dX11_eRead_186 : decode cX11_eRead 186 = .ok (.aload_n 0, 1) := by decide +kernel
theorem dX11_eRead_187 : decode cX11_eRead 187 = .ok (.iconst 1, 1) := by decide +kernel
theorem dX11_eRead_188 : decode cX11_eRead 188 = .ok (.invokevirtual 134, 3) := by decide +kernel
theorem dX11_eRead_191 : decode cX11_eRead 191 = .ok (.aload_n 0, 1) := by decide +kernel
theorem dX11_eRead_192 : decode cX11_eRead 192 = .ok (.getfield 118, 3) := by decide +kernel
theorem dX11_eRead_195 : decode cX11_eRead 195 = .ok (.ifCond .ne 5, 3) := by decide +kernel
theorem dX11_eRead_198 : decode cX11_eRead 198 = .ok (.iconst 0, 1) := by decide +kernel
theorem dX11_eRead_199 : decode cX11_eRead 199 = .ok (.ireturn, 1) := by decide +kernel
theorem dX11_eRead_200 : decode cX11_eRead 200 = .ok (.aload_n 0, 1) := by decide +kernel
theorem dX11_eRead_201 : decode cX11_eRead 201 = .ok (.dup, 1) := by decide +kernel
theorem dX11_eRead_202 : decode cX11_eRead 202 = .ok (.getfield 118, 3) := by decide +kernel
theorem dX11_eRead_205 : decode cX11_eRead 205 = .ok (.iconst 1, 1) := by decide +kernel
theorem dX11_eRead_206 : decode cX11_eRead 206 = .ok (.isub, 1) := by decide +kernel
theorem dX11_eRead_207 : decode cX11_eRead 207 = .ok (.putfield 118, 3) := by decide +kernel
theorem dX11_eRead_210 : decode cX11_eRead 210 = .ok (.aload_n 0, 1) := by decide +kernel
theorem dX11_eRead_211 : decode cX11_eRead 211 = .ok (.dup, 1) := by decide +kernel
theorem dX11_eRead_212 : decode cX11_eRead 212 = .ok (.getfield 124, 3) := by decide +kernel
theorem dX11_eRead_215 : decode cX11_eRead 215 = .ok (.iconst 1, 1) := by decide +kernel
theorem dX11_eRead_216 : decode cX11_eRead 216 = .ok (.isub, 1) := by decide +kernel
theorem dX11_eRead_217 : decode cX11_eRead 217 = .ok (.putfield 124, 3) := by decide +kernel
theorem dX11_eRead_220 : decode cX11_eRead 220 = .ok (.aload_n 0, 1) := by decide +kernel
theorem dX11_eRead_221 : decode cX11_eRead 221 = .ok (.bipush 7, 2) := by decide +kernel
theorem dX11_eRead_223 : decode cX11_eRead 223 = .ok (.invokevirtual 134, 3) := by decide +kernel
theorem dX11_eRead_226 : decode cX11_eRead 226 = .ok (.goto (-212), 3) := by decide +kernel
theorem dX11_eRead_229 : decode cX11_eRead 229 = .ok (.aload_n 0, 1) := by decide +kernel
theorem dX11_eRead_230 : decode cX11_eRead 230 = .ok (.invokevirtual 144, 3) := by decide +kernel
theorem dX11_eRead_233 : decode cX11_eRead 233 = .ok (.istore_n 3, 1) := by decide +kernel
theorem dX11_eRead_234 : decode cX11_eRead 234 = .ok (.iload_n 3, 1) := by decide +kernel
theorem dX11_eRead_235 : decode cX11_eRead 235 = .ok (.iconst (-1), 1) := by decide +kernel
theorem dX11_eRead_236 : decode cX11_eRead 236 = .ok (.if_icmp .eq 11, 3) := by decide +kernel
theorem dX11_eRead_239 : decode cX11_eRead 239 = .ok (.aload_n 0, 1) := by decide +kernel
theorem dX11_eRead_240 : decode cX11_eRead 240 = .ok (.iload_n 3, 1) := by decide +kernel
theorem dX11_eRead_241 : decode cX11_eRead 241 = .ok (.invokevirtual 147, 3) := by decide +kernel
theorem dX11_eRead_244 : decode cX11_eRead 244 = .ok (.ifCond .ne 5, 3) := by decide +kernel
theorem dX11_eRead_247 : decode cX11_eRead 247 = .ok (.iconst 0, 1) := by decide +kernel
theorem dX11_eRead_248 : decode cX11_eRead 248 = .ok (.ireturn, 1) := by decide +kernel
theorem dX11_eRead_249 : decode cX11_eRead 249 = .ok (.iconst 1, 1) := by decide +kernel
theorem dX11_eRead_250 : decode cX11_eRead 250 = .ok (.istore_n 1, 1) := by decide +kernel
theorem dX11_eRead_251 : decode cX11_eRead 251 = .ok (.iload_n 3, 1) := by decide +kernel
theorem dX11_eRead_252 : decode cX11_eRead 252 = .ok (.bipush 12, 2) := by decide +kernel
theorem dX11_eRead_254 : decode cX11_eRead 254 = .ok (.if_icmp .gt 7, 3) := by decide +kernel
theorem dX11_eRead_257 : decode cX11_eRead 257 = .ok (.iconst 1, 1) := by decide +kernel
theorem dX11_eRead_258 : decode cX11_eRead 258 = .ok (.goto 4, 3) := by decide +kernel
theorem dX11_eRead_261 : decode cX11_eRead 261 = .ok (.iconst 0, 1) := by decide +kernel
theorem dX11_eRead_262 : decode cX11_eRead 262 = .ok (.istore_n 2, 1) := by decide +kernel
theorem dX11_eRead_263 : decode cX11_eRead 263 = .ok (.goto (-249), 3) := by decide +kernel
set_option maxHeartbeats 4000000 in
set_option maxRecDepth 100000 in
theorem c_X11_eRead (d : Nat) (s : gS) (t z0 p e : Nat) (hp : s 0 18 = nI p) (he : s 0 6 = nI e) (hpe : p ≤ e) (he160 : e ≤ 160) (ht6 : t < 6) (ht : s 0 9 = nI t) (hz : s 0 26 = nI z0) (hzp : z0 ≤ p) : gMt SM yX11_eRead cX11_eRead 4 (some .boolean) (d + 4) (fun ad => [.ref (ad 0)]) s (gQi SM (fun r s' => t_G t z0 s s' ∧ ((r = 1 ∧ ∃ p2 cs, t_au (t_L (s 5) e p) [] [] true true = (true, t_L (s 5) e p2, cs) ∧ p ≤ p2 ∧ p2 ≤ e ∧ s' 0 18 = nI p2 ∧ t_S s' t z0 [] cs ∧ z0 + cs.length ≤ p2) ∨ (r = 0 ∧ ∃ c q T o, t_au (t_L (s 5) e p) [] [] true true = (false, (c, q) :: T, o) ∧ s' 0 19 = nI q)))) := by
  refine gMt_of SM_ok (by decide +kernel) (fun ad => [some (.ref (ad 0)), none, none, none]) (fun _ => rfl) (fun _ => rfl) (fun _ => Nat.le_of_ble_eq_true rfl) (fun E C0 => ?_)
  have C : gCx SM E RX11 cX11_eRead 4 (some .boolean) (d + 4) := C0
  refine G_aload_n (i := 0) C 1 dX11_eRead_0 rfl rfl rfl ?_
  refine G_iconst (v := 0) C 2 dX11_eRead_1 rfl rfl ?_
  refine X11_118p C 5 dX11_eRead_2 rfl (fun s2 es2 => ?_)
  refine G_aload_n (i := 0) C 6 dX11_eRead_5 rfl rfl rfl ?_
  refine G_iconst (v := 0) C 7 dX11_eRead_6 rfl rfl ?_
  refine X11_124p C 10 dX11_eRead_7 rfl (fun s7 es7 => ?_)
  have hS0 : t_S s7 t z0 [] [] := ⟨by rw [es7, g_up_sj, if_neg (by decide), es2, g_up_sj, if_neg (by decide)]; exact ht, by rw [es7, g_up_sj, if_neg (by decide), es2, g_up_sj, if_pos rfl]; rfl, by rw [es7, g_up_sj, if_pos rfl]; rfl, by rw [es7, g_up_sj, if_neg (by decide), es2, g_up_sj, if_neg (by decide)]; exact hz, trivial, fun i c hc => absurd hc (by simp)⟩
  have hG0 : t_G t z0 s s7 := (t_F.tr (t_F.up0 es2 (by decide)) (t_F.up0 es7 (by decide))).G
  refine G_iconst (v := 1) C 11 dX11_eRead_10 rfl rfl ?_
  refine G_istore_n (i := 1) (L' := [some (.ref (e_ad E 0)), some (.int 1), none, none]) C 12 dX11_eRead_11 rfl rfl (Nat.le_of_ble_eq_true rfl) rfl rfl ?_
  refine G_iconst (v := 1) C 13 dX11_eRead_12 rfl rfl ?_
  refine G_istore_n (i := 2) (L' := [some (.ref (e_ad E 0)), some (.int 1), some (.int 1), none]) C 14 dX11_eRead_13 rfl rfl (Nat.le_of_ble_eq_true rfl) rfl rfl ?_
  have L14 : ∀ (f14 : Nat) (p1 : Nat) (h cs : List Nat) (w m : Bool) (wa mn : Int32) (sl14 : gS) (hp1 : p ≤ p1) (hp2 : p1 ≤ e) (hwa : wa = (if w = true then 1 else 0)) (hmn : mn = (if m = true then 1 else 0)) (hau : t_au (t_L (s 5) e p1) h cs w m = t_au (t_L (s 5) e p) [] [] true true) (hS : t_S sl14 t z0 h cs) (ha : sl14 0 18 = nI p1) (hG : t_G t z0 s sl14) (hb : z0 + (h.length + cs.length) ≤ p1) (hm : ∀ q, q ∈ h → q < 20), e < p1 + f14 → GW SM E (gFin SM E (gQi SM (fun r s' => t_G t z0 s s' ∧ ((r = 1 ∧ ∃ p2 cs, t_au (t_L (s 5) e p) [] [] true true = (true, t_L (s 5) e p2, cs) ∧ p ≤ p2 ∧ p2 ≤ e ∧ s' 0 18 = nI p2 ∧ t_S s' t z0 [] cs ∧ z0 + cs.length ≤ p2) ∨ (r = 0 ∧ ∃ c q T o, t_au (t_L (s 5) e p) [] [] true true = (false, (c, q) :: T, o) ∧ s' 0 19 = nI q))))) 14 [some (.ref (e_ad E 0)), some (.int wa), some (.int mn), none] [] sl14 := by
    intro f14
    induction f14 with
    | zero =>
      intro p1 h cs w m wa mn sl14 hp1 hp2 hwa hmn hau hS ha hG hb hm hf14
      exact absurd hf14 (by omega)
    | succ f14 ih14 =>
      intro p1 h cs w m wa mn sl14 hp1 hp2 hwa hmn hau hS ha hG hb hm hf14
      refine G_aload_n (i := 0) C 15 dX11_eRead_14 rfl rfl rfl ?_
      refine G_callv 18 (G_runV C Kc_X11_next KV_X11_137 (by omega) (by decide) (eM _ _ _) rfl (c_X11_next 0 sl14 p1 e ha (by rw [hG.2.1 6 (by decide)]; exact he) hp2 he160) rfl rfl rfl (Nat.le_of_ble_eq_true rfl) rfl dX11_eRead_15) rfl (fun s15 h15 => ?_)
      have hc5 : sl14 5 = s 5 := hG.1 5 (by decide) (by decide) (by decide)
      rw [hc5] at h15
      obtain ⟨hN, hb19, hn18, hk, hV⟩ := h15
      have hS1 : t_S s15 t z0 h cs := t_S_N hS hN
      have hG1 : t_G t z0 s s15 := t_G.tr hG hN.G
      obtain ⟨T, hLT, hTT⟩ := t_Lx (f := s 5) (e := e) hp2
      have hok := t_c_ok (s 5) e p1
      generalize hce : t_c (s 5) e p1 = c at hk hV hLT hTT hok
      have hople := t_op_le h
      have hF : t_F t z0 s15 s15 := t_F.rf
      refine G_iload_n (i := 1) C 19 dX11_eRead_18 rfl rfl rfl ?_
      refine G_if_eq C 150 22 dX11_eRead_19 rfl rfl (fun c19 => ?_) (fun c19 => ?_)
      ·
        have hw : w = false := by
          cases w with
          | false => rfl
          | true => exact absurd (hwa.symm.trans c19) (by decide)
        refine G_aload_n (i := 0) C 151 dX11_eRead_150 rfl rfl rfl ?_
        refine X11_105g C 154 dX11_eRead_151 rfl (fun x151 ex151 => ?_)
        refine G_bipush (v := 59) C 156 dX11_eRead_154 rfl rfl ?_
        refine G_icmp_ne C 177 159 dX11_eRead_156 rfl rfl (fun c156 => ?_) (fun c156 => ?_)
        ·
          refine G_aload_n (i := 0) C 178 dX11_eRead_177 rfl rfl rfl ?_
          refine X11_105g C 181 dX11_eRead_178 rfl (fun x178 ex178 => ?_)
          refine G_bipush (v := 41) C 183 dX11_eRead_181 rfl rfl ?_
          refine G_icmp_ne C 229 186 dX11_eRead_183 rfl rfl (fun c183 => ?_) (fun c183 => ?_)
          ·
            refine G_aload_n (i := 0) C 230 dX11_eRead_229 rfl rfl rfl ?_
            refine G_calli 233 (G_runV C Kc_X11_signOf KV_X11_144 (by omega) (by decide) (eM _ _ _) rfl (c_X11_signOf 0 s15 c hk) rfl rfl rfl (Nat.le_of_ble_eq_true rfl) rfl dX11_eRead_230) rfl (fun x230 s230 h230 => ?_)
            obtain ⟨es230, h230⟩ := h230
            have es230 := es230.symm
            subst es230
            refine G_istore_n (i := 3) (L' := [some (.ref (e_ad E 0)), some (.int wa), some (.int mn), some (.int x230)]) C 234 dX11_eRead_233 rfl rfl (Nat.le_of_ble_eq_true rfl) rfl rfl ?_
            refine G_iload_n (i := 3) C 235 dX11_eRead_234 rfl rfl rfl ?_
            refine G_iconst (v := (-1)) C 236 dX11_eRead_235 rfl rfl ?_
            refine G_icmp_eq C 247 239 dX11_eRead_236 rfl rfl (fun c236 => ?_) (fun c236 => ?_)
            ·
              have k236 := (rfl : x230 = x230).symm.trans c236
              refine G_iconst (v := 0) C 248 dX11_eRead_247 rfl rfl ?_
              have hnB : ¬ t_isB c := fun z => by
                have y := (h230.1 z).symm.trans c236
                unfold t_isB at z
                exact nI_nm1 (by omega) y
              exact G_zret C rfl dX11_eRead_248 (⟨t_G.tr hG1 hF.G, Or.inr ⟨rfl, c, t_pl (s 5) e p1, T, cs, by rw [← hau, hw, hLT]; exact t_au_g hnB (fun z => c156 (ex151.trans (hk.trans (by rw [z]; decide)))) (fun z => c183 (ex178.trans (hk.trans (by rw [z]; decide)))), (hF.2.1 19 (by decide) (by decide) (by decide)).trans hb19⟩⟩)
            ·
              have k236 := g_neT (rfl : x230 = x230) c236
              have hcB : t_isB c := Classical.byContradiction (fun z => c236 (h230.2 z))
              have hc0 : ¬ c = 0 := by unfold t_isB at hcB; omega
              obtain ⟨hT, hp3, hp4⟩ := hTT hc0
              have hcs : x230 = nI c := h230.1 hcB
              have hc18 : c < 20 := by unfold t_isB at hcB; omega
              refine G_aload_n (i := 0) C 240 dX11_eRead_239 rfl rfl rfl ?_
              refine G_iload_n (i := 3) C 241 dX11_eRead_240 rfl rfl rfl ?_
              refine G_calli 244 (G_runV C Kc_X11_between KV_X11_147 (by omega) (by decide) (eM _ _ _) rfl (c_X11_between 0 s15 t z0 c h cs hS1 ht6 (by omega) hm hcB x230 hcs) rfl rfl rfl (Nat.le_of_ble_eq_true rfl) rfl dX11_eRead_241) rfl (fun x241 s241 h241 => ?_)
              have F_1 : t_F t z0 s15 s241 := t_F.tr hF h241.2.2
              refine G_if_ne C 249 247 dX11_eRead_244 rfl rfl (fun c244 => ?_) (fun c244 => ?_)
              ·
                have hnb : ¬ (t_rk c = 4 ∧ t_top (t_u (if t_rk c = 4 then 5 else t_rk c) h cs).1 = 4) := fun z => c244 (h241.1 z)
                obtain ⟨hr4, hS4⟩ := h241.2.1 hnb
                refine G_iconst (v := 1) C 250 dX11_eRead_249 rfl rfl ?_
                refine G_istore_n (i := 1) (L' := [some (.ref (e_ad E 0)), some (.int 1), some (.int mn), some (.int x230)]) C 251 dX11_eRead_250 rfl rfl (Nat.le_of_ble_eq_true rfl) rfl rfl ?_
                refine G_iload_n (i := 3) C 252 dX11_eRead_251 rfl rfl rfl ?_
                refine G_bipush (v := 12) C 254 dX11_eRead_252 rfl rfl ?_
                refine G_icmp_gt C 261 257 dX11_eRead_254 rfl rfl (fun c254 => ?_) (fun c254 => ?_)
                ·
                  have n254 : 12 < c := (g_ltN (a := 12) (b := c) (hx := rfl) (hy := hcs) (by omega) (by omega)).mp c254
                  have n254x : ¬ c ≤ 12 := by omega
                  refine G_iconst (v := 0) C 262 dX11_eRead_261 rfl rfl ?_
                  refine G_istore_n (i := 2) (L' := [some (.ref (e_ad E 0)), some (.int 1), some (.int 0), some (.int x230)]) C 263 dX11_eRead_262 rfl rfl (Nat.le_of_ble_eq_true rfl) rfl rfl ?_
                  refine G_goto C 14 dX11_eRead_263 rfl ?_
                  refine G_drop (L' := [some (.ref (e_ad E 0)), some (.int 1), some (.int 0), none]) ⟨rfl, rfl, rfl, trivial⟩ ?_
                  have hAU : t_au (t_L (s 5) e p1) h cs w m = t_au (t_L (s 5) e (t_n (s 5) e p1)) (c :: (t_u (if t_rk c = 4 then 5 else t_rk c) h cs).1) (t_u (if t_rk c = 4 then 5 else t_rk c) h cs).2 true (decide (c ≤ 12)) := by rw [hw, hLT, hT, t_au_B hcB, if_neg hnb]
                  have hlen := t_u_len (if t_rk c = 4 then 5 else t_rk c) h cs
                  have hmm : ∀ q, q ∈ (c :: (t_u (if t_rk c = 4 then 5 else t_rk c) h cs).1) → q < 20 := fun q hq => by
                    rcases List.mem_cons.mp hq with z | z
                    · unfold t_isB at hcB; omega
                    · exact hm q (t_u_mem _ _ _ _ z)
                  exact ih14 (t_n (s 5) e p1) (c :: (t_u (if t_rk c = 4 then 5 else t_rk c) h cs).1) (t_u (if t_rk c = 4 then 5 else t_rk c) h cs).2 true (decide (c ≤ 12)) 1 0 s241 (by omega) (hp4) (rfl) ((if_neg (fun z => n254x (of_decide_eq_true z))).symm) (hAU.symm.trans hau) (hS4) ((F_1.2.1 18 (by decide) (by decide) (by decide)).trans hn18) (t_G.tr hG1 F_1.G) (by simp only [List.length_cons]; omega) (hmm) (by omega)
                ·
                  have n254 : ¬ 12 < c := fun hq_ => c254 ((g_ltN (a := 12) (b := c) (hx := rfl) (hy := hcs) (by omega) (by omega)).mpr hq_)
                  refine G_iconst (v := 1) C 258 dX11_eRead_257 rfl rfl ?_
                  refine G_goto C 262 dX11_eRead_258 rfl ?_
                  refine G_istore_n (i := 2) (L' := [some (.ref (e_ad E 0)), some (.int 1), some (.int 1), some (.int x230)]) C 263 dX11_eRead_262 rfl rfl (Nat.le_of_ble_eq_true rfl) rfl rfl ?_
                  refine G_goto C 14 dX11_eRead_263 rfl ?_
                  refine G_drop (L' := [some (.ref (e_ad E 0)), some (.int 1), some (.int 1), none]) ⟨rfl, rfl, rfl, trivial⟩ ?_
                  have hAU : t_au (t_L (s 5) e p1) h cs w m = t_au (t_L (s 5) e (t_n (s 5) e p1)) (c :: (t_u (if t_rk c = 4 then 5 else t_rk c) h cs).1) (t_u (if t_rk c = 4 then 5 else t_rk c) h cs).2 true (decide (c ≤ 12)) := by rw [hw, hLT, hT, t_au_B hcB, if_neg hnb]
                  have hlen := t_u_len (if t_rk c = 4 then 5 else t_rk c) h cs
                  have hmm : ∀ q, q ∈ (c :: (t_u (if t_rk c = 4 then 5 else t_rk c) h cs).1) → q < 20 := fun q hq => by
                    rcases List.mem_cons.mp hq with z | z
                    · unfold t_isB at hcB; omega
                    · exact hm q (t_u_mem _ _ _ _ z)
                  exact ih14 (t_n (s 5) e p1) (c :: (t_u (if t_rk c = 4 then 5 else t_rk c) h cs).1) (t_u (if t_rk c = 4 then 5 else t_rk c) h cs).2 true (decide (c ≤ 12)) 1 1 s241 (by omega) (hp4) (rfl) ((if_pos (decide_eq_true (by omega))).symm) (hAU.symm.trans hau) (hS4) ((F_1.2.1 18 (by decide) (by decide) (by decide)).trans hn18) (t_G.tr hG1 F_1.G) (by simp only [List.length_cons]; omega) (hmm) (by omega)
              ·
                refine G_iconst (v := 0) C 248 dX11_eRead_247 rfl rfl ?_
                have hnb : t_rk c = 4 ∧ t_top (t_u (if t_rk c = 4 then 5 else t_rk c) h cs).1 = 4 := Classical.byContradiction (fun z => absurd ((h241.2.1 z).1.symm.trans c244) (by decide))
                exact G_zret C rfl dX11_eRead_248 (⟨t_G.tr hG1 F_1.G, Or.inr ⟨rfl, c, t_pl (s 5) e p1, T, cs, by rw [← hau, hw, hLT]; exact by rw [t_au_B hcB, if_pos hnb], (F_1.2.1 19 (by decide) (by decide) (by decide)).trans hb19⟩⟩)
          ·
            have hcc := t_mi_41 ((hk.symm.trans ex178.symm).trans c183)
            have hc0 : ¬ c = 0 := by omega
            obtain ⟨hT, hp3, hp4⟩ := hTT hc0
            refine G_aload_n (i := 0) C 187 dX11_eRead_186 rfl rfl rfl ?_
            refine G_iconst (v := 1) C 188 dX11_eRead_187 rfl rfl ?_
            refine G_callv 191 (G_runV C Kc_X11_unwinds KV_X11_134 (by omega) (by decide) (eM _ _ _) rfl (c_X11_unwinds 0 s15 t z0 1 h cs hS1 ht6 (by omega) hm 1 rfl (by decide) (by decide)) rfl rfl rfl (Nat.le_of_ble_eq_true rfl) rfl dX11_eRead_188) rfl (fun s188 h188 => ?_)
            have F_1 : t_F t z0 s15 s188 := t_F.tr hF h188.2
            refine G_aload_n (i := 0) C 192 dX11_eRead_191 rfl rfl rfl ?_
            refine X11_118g C 195 dX11_eRead_192 rfl (fun x192 ex192 => ?_)
            refine G_if_ne C 200 198 dX11_eRead_195 rfl rfl (fun c195 => ?_) (fun c195 => ?_)
            ·
              obtain ⟨c2, h2, hu1⟩ : ∃ c2 h2, (t_u 1 h cs).1 = c2 :: h2 := by
                cases hz : (t_u 1 h cs).1 with
                | nil => exact absurd (by rw [ex192, h188.1.2.1, hz]; rfl) c195
                | cons a l => exact ⟨a, l, rfl⟩
              have hc20 : c2 = 0 := t_rk0 (t_u_top 1 h cs c2 h2 hu1)
              have hS2 := h188.1
              rw [hu1, hc20] at hS2
              refine G_aload_n (i := 0) C 201 dX11_eRead_200 rfl rfl rfl ?_
              refine G_dup C 202 dX11_eRead_201 rfl rfl ?_
              refine X11_118g C 205 dX11_eRead_202 rfl (fun x202 ex202 => ?_)
              have Sx202 : x202 = nI (h2.length + 1) := ex202.trans (hS2.2.1)
              refine G_iconst (v := 1) C 206 dX11_eRead_205 rfl rfl ?_
              refine G_isub C 207 dX11_eRead_206 rfl (fun x206 ex206 => ?_)
              have Nx206 : x206 = nI h2.length := g_sub1 ex206 Sx202
              refine X11_118p C 210 dX11_eRead_207 rfl (fun s207 es207 => ?_)
              have F_2 : t_F t z0 s15 s207 := t_F.tr F_1 (t_F.up0 es207 (by decide))
              refine G_aload_n (i := 0) C 211 dX11_eRead_210 rfl rfl rfl ?_
              refine G_dup C 212 dX11_eRead_211 rfl rfl ?_
              refine X11_124g C 215 dX11_eRead_212 rfl (fun x212 ex212 => ?_)
              have Sx212 : x212 = nI (t_op h2 + 1) := ex212.trans (by rw [es207, g_up_sj, if_neg (by decide)]; exact hS2.2.2.1)
              refine G_iconst (v := 1) C 216 dX11_eRead_215 rfl rfl ?_
              refine G_isub C 217 dX11_eRead_216 rfl (fun x216 ex216 => ?_)
              have Nx216 : x216 = nI (t_op h2) := g_sub1 ex216 Sx212
              refine X11_124p C 220 dX11_eRead_217 rfl (fun s217 es217 => ?_)
              have F_3 : t_F t z0 s15 s217 := t_F.tr F_2 (t_F.up0 es217 (by decide))
              have hS3 : t_S s217 t z0 h2 (t_u 1 h cs).2 := by
                refine ⟨?_, ?_, ?_, ?_, ?_, fun i q hq => ?_⟩
                · rw [es217, g_up_sj, if_neg (by decide), es207, g_up_sj, if_neg (by decide)]; exact hS2.1
                · rw [es217, g_up_sj, if_neg (by decide), es207, g_up_sj, if_pos rfl]; exact Nx206
                · rw [es217, g_up_sj, if_pos rfl]; exact Nx216
                · rw [es217, g_up_sj, if_neg (by decide), es207, g_up_sj, if_neg (by decide)]; exact hS2.2.2.2.1
                · rw [es217, g_up_n (by decide), es207, g_up_n (by decide)]; exact hS2.2.2.2.2.1.2
                · rw [es217, g_up_n (by decide), es207, g_up_n (by decide)]; exact hS2.2.2.2.2.2 i q hq
              have hl1 := t_u_len 1 h cs
              rw [hu1] at hl1
              simp only [List.length_cons] at hl1
              refine G_aload_n (i := 0) C 221 dX11_eRead_220 rfl rfl rfl ?_
              refine G_bipush (v := 7) C 223 dX11_eRead_221 rfl rfl ?_
              refine G_callv 226 (G_runV C Kc_X11_unwinds KV_X11_134 (by omega) (by decide) (eM _ _ _) rfl (c_X11_unwinds 0 s217 t z0 7 h2 (t_u 1 h cs).2 hS3 ht6 (by omega) (fun q hq => hm q (t_u_mem 1 h cs q (by rw [hu1]; exact List.mem_cons_of_mem _ hq))) 7 rfl (by decide) (by decide)) rfl rfl rfl (Nat.le_of_ble_eq_true rfl) rfl dX11_eRead_223) rfl (fun s223 h223 => ?_)
              have F_4 : t_F t z0 s15 s223 := t_F.tr F_3 h223.2
              refine G_goto C 14 dX11_eRead_226 rfl ?_
              have hAU : t_au (t_L (s 5) e p1) h cs w m = t_au (t_L (s 5) e (t_n (s 5) e p1)) (t_u 7 h2 (t_u 1 h cs).2).1 (t_u 7 h2 (t_u 1 h cs).2).2 false m := by rw [hw, hLT, hT, hcc, t_au_41c hu1]
              have hlen := t_u_len 7 h2 (t_u 1 h cs).2
              have hlen1 := t_u_len 1 h cs
              rw [hu1] at hlen1
              simp only [List.length_cons] at hlen1
              have hmm : ∀ q, q ∈ (t_u 7 h2 (t_u 1 h cs).2).1 → q < 20 := fun q hq => hm q (t_u_mem 1 h cs q (by rw [hu1]; exact List.mem_cons_of_mem _ (t_u_mem _ _ _ _ hq)))
              exact ih14 (t_n (s 5) e p1) (t_u 7 h2 (t_u 1 h cs).2).1 (t_u 7 h2 (t_u 1 h cs).2).2 false m wa mn s223 (by omega) (hp4) (by rw [hwa, hw]) (hmn) (hAU.symm.trans hau) (h223.1) ((F_4.2.1 18 (by decide) (by decide) (by decide)).trans hn18) (t_G.tr hG1 F_4.G) (by omega) (hmm) (by omega)
            ·
              refine G_iconst (v := 0) C 199 dX11_eRead_198 rfl rfl ?_
              have hnil : (t_u 1 h cs).1 = [] := by
                have hl := t_u_len 1 h cs
                refine List.eq_nil_of_length_eq_zero ?_
                have z := ex192.symm.trans c195
                rw [h188.1.2.1] at z
                exact (nI_eq (by omega) (by decide)).mp z
              exact G_zret C rfl dX11_eRead_199 (⟨t_G.tr hG1 F_1.G, Or.inr ⟨rfl, c, t_pl (s 5) e p1, T, cs, by rw [← hau, hw, hLT]; exact by rw [hcc, t_au_41n hnil], (F_1.2.1 19 (by decide) (by decide) (by decide)).trans hb19⟩⟩)
        ·
          have hcc := t_mi_59 ((hk.symm.trans ex151.symm).trans c156)
          have hc0 : ¬ c = 0 := by omega
          obtain ⟨hT, hp3, hp4⟩ := hTT hc0
          refine G_aload_n (i := 0) C 160 dX11_eRead_159 rfl rfl rfl ?_
          refine G_iconst (v := 1) C 161 dX11_eRead_160 rfl rfl ?_
          refine G_callv 164 (G_runV C Kc_X11_unwinds KV_X11_134 (by omega) (by decide) (eM _ _ _) rfl (c_X11_unwinds 0 s15 t z0 1 h cs hS1 ht6 (by omega) hm 1 rfl (by decide) (by decide)) rfl rfl rfl (Nat.le_of_ble_eq_true rfl) rfl dX11_eRead_161) rfl (fun s161 h161 => ?_)
          have F_1 : t_F t z0 s15 s161 := t_F.tr hF h161.2
          refine G_aload_n (i := 0) C 165 dX11_eRead_164 rfl rfl rfl ?_
          refine X11_118g C 168 dX11_eRead_165 rfl (fun x165 ex165 => ?_)
          refine G_if_ne C 175 171 dX11_eRead_168 rfl rfl (fun c168 => ?_) (fun c168 => ?_)
          ·
            refine G_iconst (v := 0) C 176 dX11_eRead_175 rfl rfl ?_
            exact G_zret C rfl dX11_eRead_176 (⟨t_G.tr hG1 F_1.G, Or.inr ⟨rfl, c, t_pl (s 5) e p1, T, cs, by rw [← hau, hw, hLT]; exact by rw [hcc, t_au_42, if_neg (fun z => c168 (by rw [ex165, h161.1.2.1, z]; rfl))], (F_1.2.1 19 (by decide) (by decide) (by decide)).trans hb19⟩⟩)
          ·
            refine G_iconst (v := 1) C 172 dX11_eRead_171 rfl rfl ?_
            refine G_goto C 176 dX11_eRead_172 rfl ?_
            have hnil : (t_u 1 h cs).1 = [] := by
              have hl := t_u_len 1 h cs
              refine List.eq_nil_of_length_eq_zero ?_
              have z := ex165.symm.trans c168
              rw [h161.1.2.1] at z
              exact (nI_eq (by omega) (by decide)).mp z
            have hlen := t_u_len 1 h cs
            rw [hnil] at hlen
            simp only [List.length_nil] at hlen
            exact G_zret C rfl dX11_eRead_176 (⟨t_G.tr hG1 F_1.G, Or.inl ⟨rfl, t_n (s 5) e p1, (t_u 1 h cs).2, by rw [← hau, hw, hLT, hcc, t_au_42, if_pos hnil, hT], by omega, hp4, (F_1.2.1 18 (by decide) (by decide) (by decide)).trans hn18, by rw [← hnil]; exact h161.1, by omega⟩⟩)
      ·
        have hw : w = true := by
          cases w with
          | false => exact absurd hwa c19
          | true => rfl
        refine G_aload_n (i := 0) C 23 dX11_eRead_22 rfl rfl rfl ?_
        refine X11_105g C 26 dX11_eRead_23 rfl (fun x23 ex23 => ?_)
        refine G_iconst (v := 1) C 27 dX11_eRead_26 rfl rfl ?_
        refine G_icmp_eq C 38 30 dX11_eRead_27 rfl rfl (fun c27 => ?_) (fun c27 => ?_)
        ·
          have hcc := t_mi_1 ((hk.symm.trans ex23.symm).trans c27)
          have hc0 : ¬ c = 0 := by omega
          obtain ⟨hT, hp3, hp4⟩ := hTT hc0
          have hcV : t_isV c := Or.inl hcc
          have hvc : t_vc c = c := if_pos hcc
          refine G_aload_n (i := 0) C 39 dX11_eRead_38 rfl rfl rfl ?_
          refine G_aload_n (i := 0) C 40 dX11_eRead_39 rfl rfl rfl ?_
          refine X11_105g C 43 dX11_eRead_40 rfl (fun x40 ex40 => ?_)
          refine G_iconst (v := 1) C 44 dX11_eRead_43 rfl rfl ?_
          refine G_icmp_ne C 57 47 dX11_eRead_44 rfl rfl (fun c44 => ?_) (fun c44 => ?_)
          ·
            exact absurd (ex40.trans (ex23.symm.trans c27)) c44
          ·
            refine G_ldc (v := 100000) C 49 w_845 dX11_eRead_47 rfl ?_
            refine G_aload_n (i := 0) C 50 dX11_eRead_49 rfl rfl rfl ?_
            refine X11_108g C 53 dX11_eRead_50 rfl (fun x50 ex50 => ?_)
            refine G_iadd C 54 dX11_eRead_53 rfl (fun x53 ex53 => ?_)
            refine G_goto C 61 dX11_eRead_54 rfl ?_
            refine G_callv 64 (G_runV C Kc_X11_puts KV_X11_127 (by omega) (by decide) (eM _ _ _) rfl (c_X11_puts 0 s15 t (z0 + cs.length) hS1.1 hS1.2.2.2.1 ht6 (by omega) x53) rfl rfl rfl (Nat.le_of_ble_eq_true rfl) rfl dX11_eRead_61) rfl (fun s61 h61 => ?_)
            have F_1 : t_F t z0 s15 s61 := t_F.tr hF (t_F.put (by omega) (by omega) h61)
            have hval : x53 = nI (t_vc c) := by rw [hvc, ex53, ex50, hV.1 hcc, show (100000 : Int32) = nI 100000 from rfl, nI_add, show 100000 + (c - 100000) = c by omega]
            have hS2 : t_S s61 t z0 h (cs ++ [t_vc c]) := t_S_put hS1.1 hS1.2.1 hS1.2.2.1 hS1.2.2.2.2.1 hS1.2.2.2.2.2 (by rw [← hval]; exact h61)
            refine G_aload_n (i := 0) C 65 dX11_eRead_64 rfl rfl rfl ?_
            refine G_bipush (v := 7) C 67 dX11_eRead_65 rfl rfl ?_
            refine G_callv 70 (G_runV C Kc_X11_unwinds KV_X11_134 (by omega) (by decide) (eM _ _ _) rfl (c_X11_unwinds 0 s61 t z0 7 h (cs ++ [t_vc c]) hS2 ht6 (by simp only [List.length_append, List.length_cons, List.length_nil]; omega) hm 7 rfl (by decide) (by decide)) rfl rfl rfl (Nat.le_of_ble_eq_true rfl) rfl dX11_eRead_67) rfl (fun s67 h67 => ?_)
            have F_2 : t_F t z0 s15 s67 := t_F.tr F_1 h67.2
            refine G_iconst (v := 0) C 71 dX11_eRead_70 rfl rfl ?_
            refine G_istore_n (i := 1) (L' := [some (.ref (e_ad E 0)), some (.int 0), some (.int mn), none]) C 72 dX11_eRead_71 rfl rfl (Nat.le_of_ble_eq_true rfl) rfl rfl ?_
            refine G_goto C 14 dX11_eRead_72 rfl ?_
            have hAU : t_au (t_L (s 5) e p1) h cs w m = t_au (t_L (s 5) e (t_n (s 5) e p1)) (t_u 7 h (cs ++ [t_vc c])).1 (t_u 7 h (cs ++ [t_vc c])).2 false m := by rw [hw, hLT, hT, t_au_V hcV]
            have hlen := t_u_len 7 h (cs ++ [t_vc c])
            simp only [List.length_append, List.length_cons, List.length_nil] at hlen
            have hmm : ∀ q, q ∈ (t_u 7 h (cs ++ [t_vc c])).1 → q < 20 := fun q hq => hm q (t_u_mem _ _ _ _ hq)
            exact ih14 (t_n (s 5) e p1) (t_u 7 h (cs ++ [t_vc c])).1 (t_u 7 h (cs ++ [t_vc c])).2 false m 0 mn s67 (by omega) (hp4) (rfl) (hmn) (hAU.symm.trans hau) (h67.1) ((F_2.2.1 18 (by decide) (by decide) (by decide)).trans hn18) (t_G.tr hG1 F_2.G) (by omega) (hmm) (by omega)
        ·
          refine G_aload_n (i := 0) C 31 dX11_eRead_30 rfl rfl rfl ?_
          refine X11_105g C 34 dX11_eRead_31 rfl (fun x31 ex31 => ?_)
          refine G_iconst (v := 2) C 35 dX11_eRead_34 rfl rfl ?_
          refine G_icmp_ne C 75 38 dX11_eRead_35 rfl rfl (fun c35 => ?_) (fun c35 => ?_)
          ·
            refine G_aload_n (i := 0) C 76 dX11_eRead_75 rfl rfl rfl ?_
            refine X11_105g C 79 dX11_eRead_76 rfl (fun x76 ex76 => ?_)
            refine G_bipush (v := 6) C 81 dX11_eRead_79 rfl rfl ?_
            refine G_icmp_ne C 99 84 dX11_eRead_81 rfl rfl (fun c81 => ?_) (fun c81 => ?_)
            ·
              refine G_aload_n (i := 0) C 100 dX11_eRead_99 rfl rfl rfl ?_
              refine X11_105g C 103 dX11_eRead_100 rfl (fun x100 ex100 => ?_)
              refine G_bipush (v := 45) C 105 dX11_eRead_103 rfl rfl ?_
              refine G_icmp_ne C 124 108 dX11_eRead_105 rfl rfl (fun c105 => ?_) (fun c105 => ?_)
              ·
                refine G_aload_n (i := 0) C 125 dX11_eRead_124 rfl rfl rfl ?_
                refine X11_105g C 128 dX11_eRead_125 rfl (fun x125 ex125 => ?_)
                refine G_bipush (v := 40) C 130 dX11_eRead_128 rfl rfl ?_
                refine G_icmp_ne C 148 133 dX11_eRead_130 rfl rfl (fun c130 => ?_) (fun c130 => ?_)
                ·
                  refine G_iconst (v := 0) C 149 dX11_eRead_148 rfl rfl ?_
                  have hnV : ¬ t_isV c := fun z => by
                    rcases z with z | z
                    · exact c27 (ex23.trans (hk.trans (by unfold t_mt; exact if_pos z)))
                    · exact c35 (ex31.trans (hk.trans (by unfold t_mt; rw [if_neg (by omega), if_neg (by omega), if_neg (by omega), if_neg (by omega), if_pos (by omega)])))
                  exact G_zret C rfl dX11_eRead_149 (⟨t_G.tr hG1 hF.G, Or.inr ⟨rfl, c, t_pl (s 5) e p1, T, cs, by rw [← hau, hw, hLT]; exact t_au_f hnV (fun z => c81 (ex76.trans (hk.trans (by rw [z.1]; decide)))) (fun z => c105 (ex100.trans (hk.trans (by rw [z]; decide)))) (fun z => c130 (ex125.trans (hk.trans (by rw [z]; decide)))), (hF.2.1 19 (by decide) (by decide) (by decide)).trans hb19⟩⟩)
                ·
                  have hcc := t_mi_40 ((hk.symm.trans ex125.symm).trans c130)
                  have hc0 : ¬ c = 0 := by omega
                  obtain ⟨hT, hp3, hp4⟩ := hTT hc0
                  refine G_aload_n (i := 0) C 134 dX11_eRead_133 rfl rfl rfl ?_
                  refine G_iconst (v := 0) C 135 dX11_eRead_134 rfl rfl ?_
                  refine G_calli 138 (G_runV C Kc_X11_opensOne KV_X11_141 (by omega) (by decide) (eM _ _ _) rfl (c_X11_opensOne 0 s15 t z0 0 h cs hS1 (by omega) (t_op_0 h) (by omega) 0 rfl) rfl rfl rfl (Nat.le_of_ble_eq_true rfl) rfl dX11_eRead_135) rfl (fun x135 s135 h135 => ?_)
                  have F_1 : t_F t z0 s15 s135 := t_F.tr hF (t_ooF h135)
                  refine G_if_ne C 143 141 dX11_eRead_138 rfl rfl (fun c138 => ?_) (fun c138 => ?_)
                  ·
                    have h5 : ¬ t_op h = 5 := fun z => c138 (h135.1 z).1
                    obtain ⟨hr3, hS3, hF3⟩ := h135.2 h5
                    refine G_iconst (v := 1) C 144 dX11_eRead_143 rfl rfl ?_
                    refine G_istore_n (i := 2) (L' := [some (.ref (e_ad E 0)), some (.int wa), some (.int 1), none]) C 145 dX11_eRead_144 rfl rfl (Nat.le_of_ble_eq_true rfl) rfl rfl ?_
                    refine G_goto C 14 dX11_eRead_145 rfl ?_
                    have hAU : t_au (t_L (s 5) e p1) h cs w m = t_au (t_L (s 5) e (t_n (s 5) e p1)) (0 :: h) cs true true := by rw [hw, hLT, hT, hcc, t_au_40, if_neg h5]
                    have hlen : (0 :: h).length + cs.length = h.length + cs.length + 1 := by simp only [List.length_cons]; omega
                    have hmm : ∀ q, q ∈ (0 :: h) → q < 20 := fun q hq => by
                      rcases List.mem_cons.mp hq with z | z
                      · omega
                      · exact hm q z
                    exact ih14 (t_n (s 5) e p1) (0 :: h) cs true true wa 1 s135 (by omega) (hp4) (by rw [hwa, hw]) (rfl) (hAU.symm.trans hau) (hS3) ((F_1.2.1 18 (by decide) (by decide) (by decide)).trans hn18) (t_G.tr hG1 F_1.G) (by omega) (hmm) (by omega)
                  ·
                    have h5 : t_op h = 5 := Classical.byContradiction (fun z => absurd ((h135.2 z).1.symm.trans c138) (by decide))
                    have hsame := (h135.1 h5).2
                    refine G_iconst (v := 0) C 142 dX11_eRead_141 rfl rfl ?_
                    exact G_zret C rfl dX11_eRead_142 (⟨t_G.tr hG1 F_1.G, Or.inr ⟨rfl, c, t_pl (s 5) e p1, T, cs, by rw [← hau, hw, hLT]; exact by rw [hcc, t_au_40, if_pos h5], (F_1.2.1 19 (by decide) (by decide) (by decide)).trans hb19⟩⟩)
              ·
                have hcc := t_mi_45 ((hk.symm.trans ex100.symm).trans c105)
                have hc0 : ¬ c = 0 := by omega
                obtain ⟨hT, hp3, hp4⟩ := hTT hc0
                refine G_aload_n (i := 0) C 109 dX11_eRead_108 rfl rfl rfl ?_
                refine G_bipush (v := 19) C 111 dX11_eRead_109 rfl rfl ?_
                refine G_calli 114 (G_runV C Kc_X11_opensOne KV_X11_141 (by omega) (by decide) (eM _ _ _) rfl (c_X11_opensOne 0 s15 t z0 19 h cs hS1 (by omega) (t_op_19 h) (by omega) 19 rfl) rfl rfl rfl (Nat.le_of_ble_eq_true rfl) rfl dX11_eRead_111) rfl (fun x111 s111 h111 => ?_)
                have F_1 : t_F t z0 s15 s111 := t_F.tr hF (t_ooF h111)
                refine G_if_ne C 119 117 dX11_eRead_114 rfl rfl (fun c114 => ?_) (fun c114 => ?_)
                ·
                  have h5 : ¬ t_op h = 5 := fun z => c114 (h111.1 z).1
                  obtain ⟨hr3, hS3, hF3⟩ := h111.2 h5
                  refine G_iconst (v := 0) C 120 dX11_eRead_119 rfl rfl ?_
                  refine G_istore_n (i := 2) (L' := [some (.ref (e_ad E 0)), some (.int wa), some (.int 0), none]) C 121 dX11_eRead_120 rfl rfl (Nat.le_of_ble_eq_true rfl) rfl rfl ?_
                  refine G_goto C 14 dX11_eRead_121 rfl ?_
                  have hAU : t_au (t_L (s 5) e p1) h cs w m = t_au (t_L (s 5) e (t_n (s 5) e p1)) (19 :: h) cs true false := by rw [hw, hLT, hT, hcc, t_au_17, if_neg h5]
                  have hlen : (19 :: h).length + cs.length = h.length + cs.length + 1 := by simp only [List.length_cons]; omega
                  have hmm : ∀ q, q ∈ (19 :: h) → q < 20 := fun q hq => by
                    rcases List.mem_cons.mp hq with z | z
                    · omega
                    · exact hm q z
                  exact ih14 (t_n (s 5) e p1) (19 :: h) cs true false wa 0 s111 (by omega) (hp4) (by rw [hwa, hw]) (rfl) (hAU.symm.trans hau) (hS3) ((F_1.2.1 18 (by decide) (by decide) (by decide)).trans hn18) (t_G.tr hG1 F_1.G) (by omega) (hmm) (by omega)
                ·
                  have h5 : t_op h = 5 := Classical.byContradiction (fun z => absurd ((h111.2 z).1.symm.trans c114) (by decide))
                  have hsame := (h111.1 h5).2
                  refine G_iconst (v := 0) C 118 dX11_eRead_117 rfl rfl ?_
                  exact G_zret C rfl dX11_eRead_118 (⟨t_G.tr hG1 F_1.G, Or.inr ⟨rfl, c, t_pl (s 5) e p1, T, cs, by rw [← hau, hw, hLT]; exact by rw [hcc, t_au_17, if_pos h5], (F_1.2.1 19 (by decide) (by decide) (by decide)).trans hb19⟩⟩)
            ·
              have hcc := t_mi_6 ((hk.symm.trans ex76.symm).trans c81)
              have hc0 : ¬ c = 0 := by omega
              obtain ⟨hT, hp3, hp4⟩ := hTT hc0
              refine G_iload_n (i := 2) C 85 dX11_eRead_84 rfl rfl rfl ?_
              refine G_if_eq C 99 88 dX11_eRead_85 rfl rfl (fun c85 => ?_) (fun c85 => ?_)
              ·
                have hmf : m = false := by
                  cases m with
                  | false => rfl
                  | true => exact absurd (hmn.symm.trans c85) (by decide)
                refine G_aload_n (i := 0) C 100 dX11_eRead_99 rfl rfl rfl ?_
                refine X11_105g C 103 dX11_eRead_100 rfl (fun x100 ex100 => ?_)
                refine G_bipush (v := 45) C 105 dX11_eRead_103 rfl rfl ?_
                refine G_icmp_ne C 124 108 dX11_eRead_105 rfl rfl (fun c105 => ?_) (fun c105 => ?_)
                ·
                  refine G_aload_n (i := 0) C 125 dX11_eRead_124 rfl rfl rfl ?_
                  refine X11_105g C 128 dX11_eRead_125 rfl (fun x125 ex125 => ?_)
                  refine G_bipush (v := 40) C 130 dX11_eRead_128 rfl rfl ?_
                  refine G_icmp_ne C 148 133 dX11_eRead_130 rfl rfl (fun c130 => ?_) (fun c130 => ?_)
                  ·
                    refine G_iconst (v := 0) C 149 dX11_eRead_148 rfl rfl ?_
                    have hnV : ¬ t_isV c := fun z => by
                      rcases z with z | z
                      · exact c27 (ex23.trans (hk.trans (by unfold t_mt; exact if_pos z)))
                      · exact c35 (ex31.trans (hk.trans (by unfold t_mt; rw [if_neg (by omega), if_neg (by omega), if_neg (by omega), if_neg (by omega), if_pos (by omega)])))
                    exact G_zret C rfl dX11_eRead_149 (⟨t_G.tr hG1 hF.G, Or.inr ⟨rfl, c, t_pl (s 5) e p1, T, cs, by rw [← hau, hw, hLT]; exact t_au_f hnV (fun z => absurd (z.2.symm.trans hmf) (by decide)) (fun z => c105 (ex100.trans (hk.trans (by rw [z]; decide)))) (fun z => c130 (ex125.trans (hk.trans (by rw [z]; decide)))), (hF.2.1 19 (by decide) (by decide) (by decide)).trans hb19⟩⟩)
                  ·
                    exact absurd (c81.symm.trans (ex76.trans (ex125.symm.trans c130))) (by decide)
                ·
                  exact absurd (c81.symm.trans (ex76.trans (ex100.symm.trans c105))) (by decide)
              ·
                have hmt : m = true := by
                  cases m with
                  | false => exact absurd hmn c85
                  | true => rfl
                refine G_aload_n (i := 0) C 89 dX11_eRead_88 rfl rfl rfl ?_
                refine G_bipush (v := 13) C 91 dX11_eRead_89 rfl rfl ?_
                refine G_calli 94 (G_runV C Kc_X11_opensOne KV_X11_141 (by omega) (by decide) (eM _ _ _) rfl (c_X11_opensOne 0 s15 t z0 13 h cs hS1 (by omega) (t_op_13 h) (by omega) 13 rfl) rfl rfl rfl (Nat.le_of_ble_eq_true rfl) rfl dX11_eRead_91) rfl (fun x91 s91 h91 => ?_)
                have F_1 : t_F t z0 s15 s91 := t_F.tr hF (t_ooF h91)
                refine G_if_ne C 14 97 dX11_eRead_94 rfl rfl (fun c94 => ?_) (fun c94 => ?_)
                ·
                  have h5 : ¬ t_op h = 5 := fun z => c94 (h91.1 z).1
                  obtain ⟨hr3, hS3, hF3⟩ := h91.2 h5
                  have hAU : t_au (t_L (s 5) e p1) h cs w m = t_au (t_L (s 5) e (t_n (s 5) e p1)) (13 :: h) cs true m := by rw [hw, hLT, hT, hcc, hmt, t_au_13, if_neg h5]
                  have hlen : (13 :: h).length + cs.length = h.length + cs.length + 1 := by simp only [List.length_cons]; omega
                  have hmm : ∀ q, q ∈ (13 :: h) → q < 20 := fun q hq => by
                    rcases List.mem_cons.mp hq with z | z
                    · omega
                    · exact hm q z
                  exact ih14 (t_n (s 5) e p1) (13 :: h) cs true m wa mn s91 (by omega) (hp4) (by rw [hwa, hw]) (by rw [hmn, hmt]) (hAU.symm.trans hau) (hS3) ((F_1.2.1 18 (by decide) (by decide) (by decide)).trans hn18) (t_G.tr hG1 F_1.G) (by omega) (hmm) (by omega)
                ·
                  have h5 : t_op h = 5 := Classical.byContradiction (fun z => absurd ((h91.2 z).1.symm.trans c94) (by decide))
                  have hsame := (h91.1 h5).2
                  refine G_iconst (v := 0) C 98 dX11_eRead_97 rfl rfl ?_
                  exact G_zret C rfl dX11_eRead_98 (⟨t_G.tr hG1 F_1.G, Or.inr ⟨rfl, c, t_pl (s 5) e p1, T, cs, by rw [← hau, hw, hLT]; exact by rw [hcc, hmt, t_au_13, if_pos h5], (F_1.2.1 19 (by decide) (by decide) (by decide)).trans hb19⟩⟩)
          ·
            have hcc := t_mi_2 ((hk.symm.trans ex31.symm).trans c35)
            have hc0 : ¬ c = 0 := by omega
            obtain ⟨hT, hp3, hp4⟩ := hTT hc0
            have h36 : 30 ≤ c ∧ c < 36 := by
              have h40 : ¬ c = 40 := fun z => by rw [z] at hk; exact absurd (hk.symm.trans (ex31.symm.trans c35)) (by decide)
              have h41 : ¬ c = 41 := fun z => by rw [z] at hk; exact absurd (hk.symm.trans (ex31.symm.trans c35)) (by decide)
              have h42 : ¬ c = 42 := fun z => by rw [z] at hk; exact absurd (hk.symm.trans (ex31.symm.trans c35)) (by decide)
              unfold t_okc at hok
              omega
            have hcV : t_isV c := Or.inr h36
            have hvc : t_vc c = c - 30 := if_neg (by omega)
            refine G_aload_n (i := 0) C 39 dX11_eRead_38 rfl rfl rfl ?_
            refine G_aload_n (i := 0) C 40 dX11_eRead_39 rfl rfl rfl ?_
            refine X11_105g C 43 dX11_eRead_40 rfl (fun x40 ex40 => ?_)
            refine G_iconst (v := 1) C 44 dX11_eRead_43 rfl rfl ?_
            refine G_icmp_ne C 57 47 dX11_eRead_44 rfl rfl (fun c44 => ?_) (fun c44 => ?_)
            ·
              refine G_aload_n (i := 0) C 58 dX11_eRead_57 rfl rfl rfl ?_
              refine X11_108g C 61 dX11_eRead_58 rfl (fun x58 ex58 => ?_)
              refine G_callv 64 (G_runV C Kc_X11_puts KV_X11_127 (by omega) (by decide) (eM _ _ _) rfl (c_X11_puts 0 s15 t (z0 + cs.length) hS1.1 hS1.2.2.2.1 ht6 (by omega) x58) rfl rfl rfl (Nat.le_of_ble_eq_true rfl) rfl dX11_eRead_61) rfl (fun s61 h61 => ?_)
              have F_1 : t_F t z0 s15 s61 := t_F.tr hF (t_F.put (by omega) (by omega) h61)
              have hval : x58 = nI (t_vc c) := by rw [hvc, ex58]; exact hV.2.1 h36.1 h36.2
              have hS2 : t_S s61 t z0 h (cs ++ [t_vc c]) := t_S_put hS1.1 hS1.2.1 hS1.2.2.1 hS1.2.2.2.2.1 hS1.2.2.2.2.2 (by rw [← hval]; exact h61)
              refine G_aload_n (i := 0) C 65 dX11_eRead_64 rfl rfl rfl ?_
              refine G_bipush (v := 7) C 67 dX11_eRead_65 rfl rfl ?_
              refine G_callv 70 (G_runV C Kc_X11_unwinds KV_X11_134 (by omega) (by decide) (eM _ _ _) rfl (c_X11_unwinds 0 s61 t z0 7 h (cs ++ [t_vc c]) hS2 ht6 (by simp only [List.length_append, List.length_cons, List.length_nil]; omega) hm 7 rfl (by decide) (by decide)) rfl rfl rfl (Nat.le_of_ble_eq_true rfl) rfl dX11_eRead_67) rfl (fun s67 h67 => ?_)
              have F_2 : t_F t z0 s15 s67 := t_F.tr F_1 h67.2
              refine G_iconst (v := 0) C 71 dX11_eRead_70 rfl rfl ?_
              refine G_istore_n (i := 1) (L' := [some (.ref (e_ad E 0)), some (.int 0), some (.int mn), none]) C 72 dX11_eRead_71 rfl rfl (Nat.le_of_ble_eq_true rfl) rfl rfl ?_
              refine G_goto C 14 dX11_eRead_72 rfl ?_
              have hAU : t_au (t_L (s 5) e p1) h cs w m = t_au (t_L (s 5) e (t_n (s 5) e p1)) (t_u 7 h (cs ++ [t_vc c])).1 (t_u 7 h (cs ++ [t_vc c])).2 false m := by rw [hw, hLT, hT, t_au_V hcV]
              have hlen := t_u_len 7 h (cs ++ [t_vc c])
              simp only [List.length_append, List.length_cons, List.length_nil] at hlen
              have hmm : ∀ q, q ∈ (t_u 7 h (cs ++ [t_vc c])).1 → q < 20 := fun q hq => hm q (t_u_mem _ _ _ _ hq)
              exact ih14 (t_n (s 5) e p1) (t_u 7 h (cs ++ [t_vc c])).1 (t_u 7 h (cs ++ [t_vc c])).2 false m 0 mn s67 (by omega) (hp4) (rfl) (hmn) (hAU.symm.trans hau) (h67.1) ((F_2.2.1 18 (by decide) (by decide) (by decide)).trans hn18) (t_G.tr hG1 F_2.G) (by omega) (hmm) (by omega)
            ·
              exact absurd (ex23.trans (ex40.symm.trans c44)) c27
  exact L14 (e + 1) p [] [] true true 1 1 s7 (by omega) (by omega) (rfl) (rfl) (rfl) (hS0) (by rw [es7, g_up_sj, if_neg (by decide), es2, g_up_sj, if_neg (by decide)]; exact hp) (hG0) (by simp only [List.length_nil]; omega) (fun q hq => absurd hq (by simp)) (by omega)
