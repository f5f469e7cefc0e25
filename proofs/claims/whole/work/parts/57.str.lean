def gMz (S : gSd) (y : MethodName) (cc : ByteArray) (nL : Nat) (ret : Option FieldType) (d : Nat) (Bs : (Nat → Nat) → (Nat → Nat) → List Value) (σ : gS) (Qc : gQc) : Prop :=
  ∀ (l : Launch) (D : va_G) (cA : Nat → ClassId) (ad z : Nat → Nat), Met l y (.code y cc nL ret :: gTB) (gRm d) (va_Pc (Bs ad z) (gPre S D cA ad z σ)) (Qc D cA ad) 0 0 (gA S ad)
theorem gMz_of {S : gSd} {y : MethodName} {cc : ByteArray} {nL : Nat} {ret : Option FieldType} {d : Nat} {Bs : (Nat → Nat) → (Nat → Nat) → List Value} {σ : gS} {Qc : gQc} (ok : gOk S) (hy : plainFor y = true) (L0 : (Nat → Nat) → (Nat → Nat) → List (Option Value)) (hL : ∀ ad z, gl (L0 ad z) 0 = lv_args 0 (Bs ad z)) (hn : ∀ ad z, (L0 ad z).length = nL) (hl : ∀ ad z, (lg_sl (Bs ad z)).length ≤ nL)
    (body : ∀ E : gE, gCx S E y.cls cc nL ret d → GW S E (gFin S E Qc) 0 (L0 (e_ad E) (e_z E)) [] σ) : gMz S y cc nL ret d Bs σ Qc := by
  intro l D cA ad z
  refine g_ofWF (cc := cc) (maxL := nL) (ret := ret) hy rfl ?_
  intro p e s m args below meth c s₁ B hml hv
  obtain ⟨rfl, hP, hK, hz, hI, hJ⟩ := hv
  have hts := atoms_spec (ws := .code y cc nL ret :: gTB) B.pre
  rw [lg_entry_eq]
  exact body (p, l, e, _, s, m, (Bs ad z).toArray, below, meth, c, D, cA, ad, z, 0, 0)
    ⟨B.exec, B.bytes, hml, findClass_of_methodNamed B.named, fun w hw => hts w (List.mem_cons_of_mem _ hw), B.returns, B.notSynchronized, hK, hI, hJ, ok, Nat.le_refl _, Nat.le_refl _, Nat.le_refl _, Nat.le_refl _⟩
    s.heap [] _ hP va_S.rf (show lv_has _ (L0 ad z).length (gl (L0 ad z) 0) by rw [hn, hL]; exact lv_entry (Bs ad z) (hl ad z)) hz
theorem C_J {E : gE} {own : String} {cc : ByteArray} {nL : Nat} {ret : Option FieldType} {d : Nat} (C : gCx SC E own cc nL ret d) : SCJ (e_z E) (gA SC (e_ad E)) (e_s E) (e_s E).heap := C.2.2.2.2.2.2.2.2.2.1
section GZ
variable {E : gE} {own : String} {cc : ByteArray} {nL : Nat} {ret : Option FieldType} {d : Nat} {Q : State → Prop} {pc : Nat} {L : List (Option Value)} {st st0 rest : List Value} {σ : gS}
variable {idx n d' nL' i : Nat} {y : MethodName} {cc' : ByteArray} {ret' : Option FieldType} {Bs : (Nat → Nat) → (Nat → Nat) → List Value} {Bs' : List Value} {Qc : gQc}
theorem G_runVz (C : gCx SC E own cc nL ret d) (Kc : gKc y cc' nL' ret' n) (K : gKV own idx y) (hdd : d' < d) (hi : i < 3) (hy : y.cls = "java/lang/String") (M : gMz SC y cc' nL' ret' d' Bs σ Qc) (hA : Bs (e_ad E) (e_z E) = .ref (e_z E i) :: Bs') (hn : Bs'.length = n) (hst : st0 = Bs'.reverse ++ .ref (e_z E i) :: rest) (hW : (rest.map fun v => v.category).sum ≤ 8) (hL : L.length = nL) (hd : decode cc pc = .ok (.invokevirtual idx, 3)) :
    gRun SC E pc L st0 rest σ (Qc (e_D E) (e_cA E) (e_ad E) (Bs (e_ad E) (e_z E)).toArray) := by
  intro H locs ls hP hS hl hz
  obtain ⟨c1, c2, c3, c4, c5⟩ := Kc
  obtain ⟨k1, k2, k3, k4⟩ := K
  have hM := M (e_l E) (e_D E) (e_cA E) (e_ad E) (e_z E)
  rw [hA] at hM ⊢
  have hg : GoodIn gTB (wsV own idx y.cls y (.code y cc' nL' ret' :: gTB)) := by
    refine gTB_in fun w hw => ?_
    simp only [wsV, List.cons_append, List.nil_append, List.mem_cons] at hw
    rcases hw with rfl | rfl | rfl | rfl | rfl | h <;> assumption
  exact va_runV ⟨C.1, C.2.1, C.2.2.1, C.2.2.2.1, C.2.2.2.2.1⟩ hM (cwV n C.2.2.2.2.1 hg rfl rfl rfl ⟨rfl, c2, c3, c4⟩ (gRoom C c5 hdd)) ⟨gBlind C.2.2.2.2.2.2.2.2.2.2.1, by rw [hy]; exact vk_recv (C_J C).1 hi hS, fun U hU hWU => ⟨rfl, gPre_at C hP hS hz hU hWU⟩⟩ rfl hn (hl.1.trans hL) hst (lv_room hW) hd (gRoom0 C)
theorem G_runSz (C : gCx SC E own cc nL ret d) (Kc : gKc y cc' nL' ret' n) (K : gKS own idx y) (hdd : d' < d) (M : gMz SC y cc' nL' ret' d' Bs σ Qc) (hn : (Bs (e_ad E) (e_z E)).length = n) (hst : st0 = (Bs (e_ad E) (e_z E)).reverse ++ rest) (hW : (rest.map fun v => v.category).sum ≤ 8) (hL : L.length = nL) (hd : decode cc pc = .ok (.invokestatic idx, 3)) :
    gRun SC E pc L st0 rest σ (Qc (e_D E) (e_cA E) (e_ad E) (Bs (e_ad E) (e_z E)).toArray) := by
  intro H locs ls hP hS hl hz
  obtain ⟨c1, c2, c3, c4, c5⟩ := Kc
  obtain ⟨k1, k2, k3⟩ := K
  have hM := M (e_l E) (e_D E) (e_cA E) (e_ad E) (e_z E)
  have hg : GoodIn gTB (va_wsS own idx y (.code y cc' nL' ret' :: gTB)) := by
    refine gTB_in fun w hw => ?_
    simp only [va_wsS, List.cons_append, List.nil_append, List.mem_cons] at hw
    rcases hw with rfl | rfl | rfl | rfl | h <;> assumption
  exact va_runS ⟨C.1, C.2.1, C.2.2.1, C.2.2.2.1, C.2.2.2.2.1⟩ hM (va_cwS n C.2.2.2.2.1 hg rfl rfl rfl ⟨c2, c3, c4⟩ (gRoom C c5 hdd)) ⟨gBlind C.2.2.2.2.2.2.2.2.2.2.1, fun U hU hWU => ⟨rfl, gPre_at C hP hS hz hU hWU⟩⟩ rfl hn (hl.1.trans hL) hst (lv_room hW) hd (gRoom0 C)
theorem G_ldcS0 (C : gCx SC E RX10 cc nL ret d) (pc' : Nat) (hd : decode cc pc = .ok (.ldc 67, 2)) (hp : pc + 2 = pc') (kk : GW SC E Q pc' L (.ref (e_z E 0) :: st) σ) : GW SC E Q pc L st σ := by
  subst hp
  exact fun H locs ls hP hS hl hz => va_ldcS C.1 C.2.1 C.2.2.2.1 (C_J C).2.2.2.2.2.1.1 hd (kk H locs ls hP hS hl hz)
theorem G_ldcS1 (C : gCx SC E RX6 cc nL ret d) (pc' : Nat) (hd : decode cc pc = .ok (.ldc 95, 2)) (hp : pc + 2 = pc') (kk : GW SC E Q pc' L (.ref (e_z E 1) :: st) σ) : GW SC E Q pc L st σ := by
  subst hp
  exact fun H locs ls hP hS hl hz => va_ldcS C.1 C.2.1 C.2.2.2.1 (C_J C).2.2.2.2.2.1.2.1 hd (kk H locs ls hP hS hl hz)
theorem G_ldcS2 (C : gCx SC E RX6 cc nL ret d) (pc' : Nat) (hd : decode cc pc = .ok (.ldc 88, 2)) (hp : pc + 2 = pc') (kk : GW SC E Q pc' L (.ref (e_z E 2) :: st) σ) : GW SC E Q pc L st σ := by
  subst hp
  exact fun H locs ls hP hS hl hz => va_ldcS C.1 C.2.1 C.2.2.2.1 (C_J C).2.2.2.2.2.1.2.2 hd (kk H locs ls hP hS hl hz)
theorem G_getCS (C : gCx SC E RJ0 cc nL ret d) (pc' : Nat) (hd : decode cc pc = .ok (.getstatic 38, 3)) (hp : pc + 3 = pc') (kk : GW SC E Q pc' L (.int 1 :: st) σ) : GW SC E Q pc L st σ := by
  subst hp
  exact fun H locs ls hP hS hl hz => va_gets C.1 C.2.1 (C_J C).2.1 hS C.2.2.2.1 (C.2.2.2.2.1 _ w_218) (fun _ h => h) hd (kk H locs ls hP hS hl hz)
theorem G_getSI (C : gCx SC E RJ0 cc nL ret d) (pc' : Nat) (hd : decode cc pc = .ok (.getstatic 1053, 3)) (hp : pc + 3 = pc') (kk : ∀ v : Value, (v = .null ∨ ∃ t : Nat, v = .ref t) → GW SC E Q pc' L (v :: st) σ) : GW SC E Q pc L st σ := by
  subst hp
  intro H locs ls hP hS hl hz
  rcases (C_J C).2.2.1 with h | ⟨t, h⟩
  · exact va_gets C.1 C.2.1 h hS C.2.2.2.1 (C.2.2.2.2.1 _ w_234) (fun _ h => h) hd (kk _ (Or.inl rfl) H locs ls hP hS hl hz)
  · exact va_gets C.1 C.2.1 h hS C.2.2.2.1 (C.2.2.2.2.1 _ w_234) (fun _ h => h) hd (kk _ (Or.inr ⟨t, rfl⟩) H locs ls hP hS hl hz)
theorem G_strV (C : gCx SC E RJ0 cc nL ret d) (pc' : Nat) (hi : i < 3) (hd : decode cc pc = .ok (.getfield 9, 3)) (hp : pc + 3 = pc') (kk : GW SC E Q pc' L (.ref (e_z E (i + 3)) :: st) σ) : GW SC E Q pc L (.ref (e_z E i) :: st) σ := by
  subst hp
  exact fun H locs ls hP hS hl hz => vk_getf C.1 C.2.1 ((C_J C).1.1 i hi).2.2.1 hS C.2.2.2.1 (C.2.2.2.2.1 _ w_1259) (fun _ h => h) hd (kk H locs ls hP hS hl hz)
theorem G_strC (C : gCx SC E RJ0 cc nL ret d) (pc' : Nat) (hi : i < 3) (hd : decode cc pc = .ok (.getfield 15, 3)) (hp : pc + 3 = pc') (kk : GW SC E Q pc' L (.int 0 :: st) σ) : GW SC E Q pc L (.ref (e_z E i) :: st) σ := by
  subst hp
  exact fun H locs ls hP hS hl hz => vk_getf C.1 C.2.1 ((C_J C).1.1 i hi).2.1 hS C.2.2.2.1 (C.2.2.2.2.1 _ w_1260) (fun _ h => h) hd (kk H locs ls hP hS hl hz)
theorem G_slen (C : gCx SC E own cc nL ret d) (pc' : Nat) (hi : i < 3) (hd : decode cc pc = .ok (.arraylength, 1)) (hp : pc + 1 = pc') (kk : GW SC E Q pc' L (.int (nI (sLen.getD i 0)) :: st) σ) : GW SC E Q pc L (.ref (e_z E (i + 3)) :: st) σ := by
  subst hp
  exact fun H locs ls hP hS hl hz => va_tlen C.1 C.2.1 ((C_J C).1.1 i hi).2.2.2 hS rfl hd (kk H locs ls hP hS hl hz)
theorem G_sbld (C : gCx SC E own cc nL ret d) (pc' : Nat) (hi : i < 3) {x : Int32} (j : Nat) (hx : x = nI j) (hj : j < sLen.getD i 0) (hl0 : sLen.getD i 0 < 2 ^ 31) (hd : decode cc pc = .ok (.baload, 1)) (hp : pc + 1 = pc') (kk : ∀ v : Int32, v = (sByt.getD i []).getD j 0 → GW SC E Q pc' L (.int v :: st) σ) : GW SC E Q pc L (.int x :: .ref (e_z E (i + 3)) :: st) σ := by
  subst hp
  subst hx
  exact fun H locs ls hP hS hl hz => va_tb C.1 C.2.1 ((C_J C).1.1 i hi).2.2.2 hS (vp_in_nI hj hl0) (by rw [nI_clamp (by omega)]) hd (kk _ rfl H locs ls hP hS hl hz)
end GZ
theorem dJ0_coder_7d493_0 : decode cJ0_coder_7d493 0 = .ok (.getstatic 38, 3) := by decide +kernel
theorem dJ0_coder_7d493_3 : decode cJ0_coder_7d493 3 = .ok (.ifCond .eq 10, 3) := by decide +kernel
theorem dJ0_coder_7d493_6 : decode cJ0_coder_7d493 6 = .ok (.aload_n 0, 1) := by decide +kernel
theorem dJ0_coder_7d493_7 : decode cJ0_coder_7d493 7 = .ok (.getfield 15, 3) := by decide +kernel
theorem dJ0_coder_7d493_10 : decode cJ0_coder_7d493 10 = .ok (.goto 4, 3) := by decide +kernel
theorem dJ0_coder_7d493_13 : decode cJ0_coder_7d493 13 = .ok (.iconst 1, 1) := by decide +kernel
theorem dJ0_coder_7d493_14 : decode cJ0_coder_7d493 14 = .ok (.ireturn, 1) := by decide +kernel
theorem dJ0_length_8abf5_0 : decode cJ0_length_8abf5 0 = .ok (.aload_n 0, 1) := by decide +kernel
theorem dJ0_length_8abf5_1 : decode cJ0_length_8abf5 1 = .ok (.getfield 9, 3) := by decide +kernel
theorem dJ0_length_8abf5_4 : decode cJ0_length_8abf5 4 = .ok (.arraylength, 1) := by decide +kernel
theorem dJ0_length_8abf5_5 : decode cJ0_length_8abf5 5 = .ok (.aload_n 0, 1) := by decide +kernel
theorem dJ0_length_8abf5_6 : decode cJ0_length_8abf5 6 = .ok (.invokevirtual 335, 3) := by decide +kernel
theorem dJ0_length_8abf5_9 : decode cJ0_length_8abf5 9 = .ok (.ishr, 1) := by decide +kernel
theorem dJ0_length_8abf5_10 : decode cJ0_length_8abf5 10 = .ok (.ireturn, 1) := by decide +kernel
theorem dJ0_isLatin1_aae02_0 : decode cJ0_isLatin1_aae02 0 = .ok (.getstatic 38, 3) := by decide +kernel
theorem dJ0_isLatin1_aae02_3 : decode cJ0_isLatin1_aae02 3 = .ok (.ifCond .eq 14, 3) := by decide +kernel
theorem dJ0_isLatin1_aae02_6 : decode cJ0_isLatin1_aae02 6 = .ok (.aload_n 0, 1) := by decide +kernel
theorem dJ0_isLatin1_aae02_7 : decode cJ0_isLatin1_aae02 7 = .ok (.getfield 15, 3) := by decide +kernel
theorem dJ0_isLatin1_aae02_10 : decode cJ0_isLatin1_aae02 10 = .ok (.ifCond .ne 7, 3) := by decide +kernel
theorem dJ0_isLatin1_aae02_13 : decode cJ0_isLatin1_aae02 13 = .ok (.iconst 1, 1) := by decide +kernel
theorem dJ0_isLatin1_aae02_14 : decode cJ0_isLatin1_aae02 14 = .ok (.goto 4, 3) := by decide +kernel
theorem dJ0_isLatin1_aae02_17 : decode cJ0_isLatin1_aae02 17 = .ok (.iconst 0, 1) := by decide +kernel
theorem dJ0_isLatin1_aae02_18 : decode cJ0_isLatin1_aae02 18 = .ok (.ireturn, 1) := by decide +kernel
theorem c_J0_coder (d i : Nat) (hi : i < 3) (s : gS) : gMz SC yJ0_coder_7d493 cJ0_coder_7d493 1 (some .byte) (d + 1) (fun _ z => [.ref (z i)]) s (gQi SC (fun r s' => s' = s ∧ r = 0)) := by
  refine gMz_of SC_ok (by decide +kernel) (fun _ z => [some (.ref (z i))]) (fun _ _ => rfl) (fun _ _ => rfl) (fun _ _ => Nat.le_of_ble_eq_true rfl) (fun E C0 => ?_)
  have C : gCx SC E RJ0 cJ0_coder_7d493 1 (some .byte) (d + 1) := C0
  refine G_getCS C 3 dJ0_coder_7d493_0 rfl ?_
  refine G_if_eq C 13 6 dJ0_coder_7d493_3 rfl rfl (fun c => absurd c (by decide)) (fun _ => ?_)
  refine G_aload_n (i := 0) C 7 dJ0_coder_7d493_6 rfl rfl rfl ?_
  refine G_strC C 10 hi dJ0_coder_7d493_7 rfl ?_
  refine G_goto C 14 dJ0_coder_7d493_10 rfl ?_
  exact G_zret C rfl dJ0_coder_7d493_14 ⟨rfl, rfl⟩
theorem c_J0_isLatin1 (d i : Nat) (hi : i < 3) (s : gS) : gMz SC yJ0_isLatin1_aae02 cJ0_isLatin1_aae02 1 (some .boolean) (d + 1) (fun _ z => [.ref (z i)]) s (gQi SC (fun r s' => s' = s ∧ r = 1)) := by
  refine gMz_of SC_ok (by decide +kernel) (fun _ z => [some (.ref (z i))]) (fun _ _ => rfl) (fun _ _ => rfl) (fun _ _ => Nat.le_of_ble_eq_true rfl) (fun E C0 => ?_)
  have C : gCx SC E RJ0 cJ0_isLatin1_aae02 1 (some .boolean) (d + 1) := C0
  refine G_getCS C 3 dJ0_isLatin1_aae02_0 rfl ?_
  refine G_if_eq C 17 6 dJ0_isLatin1_aae02_3 rfl rfl (fun c => absurd c (by decide)) (fun _ => ?_)
  refine G_aload_n (i := 0) C 7 dJ0_isLatin1_aae02_6 rfl rfl rfl ?_
  refine G_strC C 10 hi dJ0_isLatin1_aae02_7 rfl ?_
  refine G_if_ne C 17 13 dJ0_isLatin1_aae02_10 rfl rfl (fun c => absurd rfl c) (fun _ => ?_)
  refine G_iconst (v := 1) C 14 dJ0_isLatin1_aae02_13 rfl rfl ?_
  refine G_goto C 18 dJ0_isLatin1_aae02_14 rfl ?_
  exact G_zret C rfl dJ0_isLatin1_aae02_18 ⟨rfl, rfl⟩
theorem c_J0_length (d i : Nat) (hi : i < 3) (s : gS) : gMz SC yJ0_length_8abf5 cJ0_length_8abf5 1 (some .int) (d + 2) (fun _ z => [.ref (z i)]) s (gQi SC (fun r s' => s' = s ∧ r = nI (sLen.getD i 0))) := by
  refine gMz_of SC_ok (by decide +kernel) (fun _ z => [some (.ref (z i))]) (fun _ _ => rfl) (fun _ _ => rfl) (fun _ _ => Nat.le_of_ble_eq_true rfl) (fun E C0 => ?_)
  have C : gCx SC E RJ0 cJ0_length_8abf5 1 (some .int) (d + 2) := C0
  refine G_aload_n (i := 0) C 1 dJ0_length_8abf5_0 rfl rfl rfl ?_
  refine G_strV C 4 hi dJ0_length_8abf5_1 rfl ?_
  refine G_slen C 5 hi dJ0_length_8abf5_4 rfl ?_
  refine G_aload_n (i := 0) C 6 dJ0_length_8abf5_5 rfl rfl rfl ?_
  refine G_calli 9 (G_runVz C Kc_J0_coder_7d493 KV_J0_335 (by omega) hi rfl (c_J0_coder 0 i hi s) rfl rfl rfl (Nat.le_of_ble_eq_true rfl) rfl dJ0_length_8abf5_6) rfl (fun x6 s6 h6 => ?_)
  obtain ⟨es6, e6⟩ := h6
  subst es6
  subst e6
  refine G_ishr C 10 dJ0_length_8abf5_9 rfl (fun x9 ex9 => ?_)
  refine G_iret C dJ0_length_8abf5_10 ⟨rfl, ?_⟩
  rw [ex9]
  have : i = 0 ∨ i = 1 ∨ i = 2 := by omega
  rcases this with rfl | rfl | rfl <;> decide
