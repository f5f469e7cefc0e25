def c_RD (t : Nat) (a b : gS) : Prop := (∀ k, k ≠ 3 → k ≠ 6 + 4 * t → k ≠ 6 + 4 * t + 1 → k ≠ 6 + 4 * t + 2 → b k = a k) ∧ b 3 1 = a 3 1
def c_EN (t : Nat) (zs : List Nat) (s : gS) : Prop := ∀ i z, zs[i]? = some z → s (6 + 4 * t + 2) i = nI z
def c_rp (f : Nat → Int32) (e t : Nat) (s : gS) (r : Int32) (s' : gS) : Prop := c_RD t s s' ∧ ((t_ok (t_L f e 0) ∧ r = -1 ∧ cT (fun _ => t_cs (t_L f e 0)) s' t) ∨ (¬ t_ok (t_L f e 0) ∧ t_flt (t_L f e 0) ≤ 160 ∧ r = nI (t_flt (t_L f e 0))))
theorem c_RD.N {t : Nat} {a b c : gS} (h : c_RD t a b) (g : c_N b c) : c_RD t a c := ⟨fun k h3 h6 h7 h8 => (g.1 k h3).trans (h.1 k h3 h6 h7 h8), (g.2 1 (by decide)).trans h.2⟩
theorem c_RD.F {t z : Nat} {a b c : gS} (h : c_RD t a b) (g : c_F t z b c) : c_RD t a c := ⟨fun k h3 h6 h7 h8 => (g.1 k h3 h6 h7).trans (h.1 k h3 h6 h7 h8), (g.2.1 1 (by decide)).trans h.2⟩
theorem c_RD.st {t i : Nat} {v : Int32} {a b c : gS} (h : c_RD t a b) (e : c = g_up b (6 + 4 * t + 2) i v) : c_RD t a c := ⟨fun k h3 h6 h7 h8 => by rw [e, g_up_n h8]; exact h.1 k h3 h6 h7 h8, by rw [e, g_up_n (by omega)]; exact h.2⟩
theorem c_B.st {f : Nat → Int32} {e t z p i : Nat} {v : Int32} {b c : gS} (h : c_B f e t z p b) (g : c = g_up b (6 + 4 * t + 2) i v) : c_B f e t z p c := by
  have h3 : c 3 = b 3 := by rw [g, g_up_n (by omega)]
  have h4 : c 4 = b 4 := by rw [g, g_up_n (by omega)]
  have h6 : c (6 + 4 * t) = b (6 + 4 * t) := by rw [g, g_up_n (by omega)]
  unfold c_B c_T at h ⊢
  rw [h3, h4, h6]
  exact h
theorem c_S.st {t z i : Nat} {cs : List Nat} {v : Int32} {b c : gS} (h : c_S b t z cs) (g : c = g_up b (6 + 4 * t + 2) i v) : c_S c t z cs := by
  have h6 : c (6 + 4 * t) = b (6 + 4 * t) := by rw [g, g_up_n (by omega)]
  have h7 : c (6 + 4 * t + 1) = b (6 + 4 * t + 1) := by rw [g, g_up_n (by omega)]
  unfold c_S at h ⊢
  rw [h6, h7]
  exact h
theorem c_EN.N {t : Nat} {zs : List Nat} {a b : gS} (h : c_EN t zs a) (g : c_N a b) : c_EN t zs b := fun i z hz => by rw [g.1 _ (by omega)]; exact h i z hz
theorem c_EN.F {t z0 : Nat} {zs : List Nat} {a b : gS} (h : c_EN t zs a) (g : c_F t z0 a b) : c_EN t zs b := fun i z hz => by rw [g.1 _ (by omega) (by omega) (by omega)]; exact h i z hz
theorem c_EN.st {t i z : Nat} {zs : List Nat} {v : Int32} {a b : gS} (h : c_EN t zs a) (hi : i = zs.length) (hv : v = nI z) (e : b = g_up a (6 + 4 * t + 2) i v) : c_EN t (zs ++ [z]) b := by
  intro q y hy
  rw [e, g_up_sj]
  by_cases hq : q < zs.length
  · rw [List.getElem?_append_left hq] at hy
    rw [if_neg (by omega)]
    exact h q y hy
  · rw [List.getElem?_append_right (by omega)] at hy
    have hq2 : q = zs.length := Classical.byContradiction (fun x => by
      obtain ⟨w, hw⟩ : ∃ w, q - zs.length = w + 1 := ⟨q - zs.length - 1, by omega⟩
      rw [hw] at hy
      exact absurd hy (by simp))
    rw [hq2, show zs.length - zs.length = 0 by omega] at hy
    rw [if_pos (by omega), hv]
    exact congrArg nI (Option.some.inj hy)
theorem c_cT {TX : gTX} {t : Nat} {s : gS} {a b c : List Nat} (h0 : TX t 0 = a) (h1 : TX t 1 = b) (h2 : TX t 2 = c) (hN : c_EN t [0 + a.length, 0 + (a ++ b).length, 0 + ((a ++ b) ++ c).length] s) (hS : c_S s t 0 ((a ++ b) ++ c)) (hl : ((a ++ b) ++ c).length ≤ 160) : cT TX s t := by
  have n0 := hN 0 _ rfl
  have n1 := hN 1 _ rfl
  have n2 := hN 2 _ rfl
  simp only [List.length_append, Nat.zero_add] at n0 n1 n2 hl
  unfold cT
  rw [h0, h1, h2]
  refine ⟨n0, n1, n2, hl, fun i x hx => ?_⟩
  have := hS.2 i x (by rw [List.append_assoc]; exact hx)
  rw [Nat.zero_add] at this
  exact this
theorem c_go_fin {f : Nat → Int32} {e p p1 : Nat} {cs : List Nat} (hp1 : p1 ≤ e) (g : c_go f e 1 0 p p1 cs) (hc : t_c f e p1 = 42) : t_au (t_L f e p) [] [] true true = (true, t_L f e (t_n f e p1), cs) := by
  obtain ⟨h1, out1, a1, a2, a3⟩ := g [] [] true rfl (show 0 < 1 by decide) (fun _ => rfl)
  have a4 : t_u 1 h1 out1 = ([], cs) := a2
  rw [a1, c_at hp1 hc (by decide), t_au_42, a4, if_pos rfl]
theorem c_go_bad {f : Nat → Int32} {e p p1 : Nat} {cs : List Nat} (hp1 : p1 ≤ e) (g : c_go f e 1 0 p p1 cs) (hc : ¬ t_c f e p1 = 42) : ∃ o, t_au (t_L f e p) [] [] true true = (false, t_L f e p1, o) := by
  obtain ⟨h1, out1, a1, a2, a3⟩ := g [] [] true rfl (show 0 < 1 by decide) (fun _ => rfl)
  have a4 : t_u 1 h1 out1 = ([], cs) := a2
  exact ⟨out1, by rw [a1]; exact c_stop hp1 a3 (fun _ => by rw [a4]) (fun z => absurd z hc)⟩
theorem c_no_bad {f : Nat → Int32} {e p p1 : Nat} (g : c_no f e 1 0 p p1) : ∃ o, t_au (t_L f e p) [] [] true true = (false, t_L f e p1, o) := g [] [] true rfl (show 0 < 1 by decide) (fun _ => rfl)
theorem dX6_read_0 : decode cX6_read 0 = .ok (.aload_n 0, 1) := by decide +kernel
theorem dX6_read_1 : decode cX6_read 1 = .ok (.aload_n 1, 1) := by decide +kernel
theorem dX6_read_2 : decode cX6_read 2 = .ok (.putfield 19, 3) := by decide +kernel
theorem dX6_read_5 : decode cX6_read 5 = .ok (.aload_n 0, 1) := by decide +kernel
theorem dX6_read_6 : decode cX6_read 6 = .ok (.getfield 19, 3) := by decide +kernel
theorem dX6_read_9 : decode cX6_read 9 = .ok (.iconst 0, 1) := by decide +kernel
theorem dX6_read_10 : decode cX6_read 10 = .ok (.putfield 23, 3) := by decide +kernel
theorem dX6_read_13 : decode cX6_read 13 = .ok (.aload_n 0, 1) := by decide +kernel
theorem dX6_read_14 : decode cX6_read 14 = .ok (.iconst 0, 1) := by decide +kernel
theorem dX6_read_15 : decode cX6_read 15 = .ok (.putfield 26, 3) := by decide +kernel
theorem dX6_read_18 : decode cX6_read 18 = .ok (.aload_n 0, 1) := by decide +kernel
theorem dX6_read_19 : decode cX6_read 19 = .ok (.invokevirtual 29, 3) := by decide +kernel
theorem dX6_read_22 : decode cX6_read 22 = .ok (.iconst 0, 1) := by decide +kernel
theorem dX6_read_23 : decode cX6_read 23 = .ok (.istore_n 2, 1) := by decide +kernel
theorem dX6_read_24 : decode cX6_read 24 = .ok (.iload_n 2, 1) := by decide +kernel
theorem dX6_read_25 : decode cX6_read 25 = .ok (.iconst 3, 1) := by decide +kernel
theorem dX6_read_26 : decode cX6_read 26 = .ok (.if_icmp .ge 71, 3) := by decide +kernel
theorem dX6_read_29 : decode cX6_read 29 = .ok (.aload_n 0, 1) := by decide +kernel
theorem dX6_read_30 : decode cX6_read 30 = .ok (.getfield 32, 3) := by decide +kernel
theorem dX6_read_33 : decode cX6_read 33 = .ok (.bipush 100, 2) := by decide +kernel
theorem dX6_read_35 : decode cX6_read 35 = .ok (.iload_n 2, 1) := by decide +kernel
theorem dX6_read_36 : decode cX6_read 36 = .ok (.iadd, 1) := by decide +kernel
theorem dX6_read_37 : decode cX6_read 37 = .ok (.if_icmp .eq 8, 3) := by decide +kernel
theorem dX6_read_40 : decode cX6_read 40 = .ok (.aload_n 0, 1) := by decide +kernel
theorem dX6_read_41 : decode cX6_read 41 = .ok (.getfield 35, 3) := by decide +kernel
theorem dX6_read_44 : decode cX6_read 44 = .ok (.ireturn, 1) := by decide +kernel
theorem dX6_read_45 : decode cX6_read 45 = .ok (.aload_n 0, 1) := by decide +kernel
theorem dX6_read_46 : decode cX6_read 46 = .ok (.invokevirtual 29, 3) := by decide +kernel
theorem dX6_read_49 : decode cX6_read 49 = .ok (.aload_n 0, 1) := by decide +kernel
theorem dX6_read_50 : decode cX6_read 50 = .ok (.iconst 0, 1) := by decide +kernel
theorem dX6_read_51 : decode cX6_read 51 = .ok (.invokevirtual 38, 3) := by decide +kernel
theorem dX6_read_54 : decode cX6_read 54 = .ok (.ifCond .eq 12, 3) := by decide +kernel
theorem dX6_read_57 : decode cX6_read 57 = .ok (.aload_n 0, 1) := by decide +kernel
theorem dX6_read_58 : decode cX6_read 58 = .ok (.getfield 32, 3) := by decide +kernel
theorem dX6_read_61 : decode cX6_read 61 = .ok (.bipush 59, 2) := by decide +kernel
theorem dX6_read_63 : decode cX6_read 63 = .ok (.if_icmp .eq 8, 3) := by decide +kernel
theorem dX6_read_66 : decode cX6_read 66 = .ok (.aload_n 0, 1) := by decide +kernel
theorem dX6_read_67 : decode cX6_read 67 = .ok (.getfield 35, 3) := by decide +kernel
theorem dX6_read_70 : decode cX6_read 70 = .ok (.ireturn, 1) := by decide +kernel
theorem dX6_read_71 : decode cX6_read 71 = .ok (.aload_n 0, 1) := by decide +kernel
theorem dX6_read_72 : decode cX6_read 72 = .ok (.invokevirtual 29, 3) := by decide +kernel
theorem dX6_read_75 : decode cX6_read 75 = .ok (.aload_n 0, 1) := by decide +kernel
theorem dX6_read_76 : decode cX6_read 76 = .ok (.getfield 19, 3) := by decide +kernel
theorem dX6_read_79 : decode cX6_read 79 = .ok (.getfield 42, 3) := by decide +kernel
theorem dX6_read_82 : decode cX6_read 82 = .ok (.iload_n 2, 1) := by decide +kernel
theorem dX6_read_83 : decode cX6_read 83 = .ok (.aload_n 0, 1) := by decide +kernel
theorem dX6_read_84 : decode cX6_read 84 = .ok (.getfield 19, 3) := by decide +kernel
theorem dX6_read_87 : decode cX6_read 87 = .ok (.getfield 23, 3) := by decide +kernel
theorem dX6_read_90 : decode cX6_read 90 = .ok (.iastore, 1) := by decide +kernel
theorem dX6_read_91 : decode cX6_read 91 = .ok (.iinc 2 1, 3) := by decide +kernel
theorem dX6_read_94 : decode cX6_read 94 = .ok (.goto (-70), 3) := by decide +kernel
theorem dX6_read_97 : decode cX6_read 97 = .ok (.aload_n 0, 1) := by decide +kernel
theorem dX6_read_98 : decode cX6_read 98 = .ok (.getfield 32, 3) := by decide +kernel
theorem dX6_read_101 : decode cX6_read 101 = .ok (.ifCond .ne 7, 3) := by decide +kernel
theorem dX6_read_104 : decode cX6_read 104 = .ok (.iconst (-1), 1) := by decide +kernel
theorem dX6_read_105 : decode cX6_read 105 = .ok (.goto 7, 3) := by decide +kernel
theorem dX6_read_108 : decode cX6_read 108 = .ok (.aload_n 0, 1) := by decide +kernel
theorem dX6_read_109 : decode cX6_read 109 = .ok (.getfield 35, 3) := by decide +kernel
theorem dX6_read_112 : decode cX6_read 112 = .ok (.ireturn, 1) := by decide +kernel
set_option maxHeartbeats 4000000 in
set_option maxRecDepth 100000 in
theorem c_X6_read (d : Nat) (f : Nat → Int32) (e t : Nat) (s : gS) (h4 : s 4 = f) (he : s 3 1 = nI e) (he160 : e ≤ 160) (ht6 : t < 6) (hb : ∀ j, j < e → ∃ v, v < 256 ∧ f j = nI v) : gMt SC yX6_read cX6_read 3 (some .int) (d + 44) (fun ad => [.ref (ad 3), .ref (ad (6 + 4 * t))]) s (gQi SC (fun r s' => c_rp f e t s r s')) := by
  refine gMt_of SC_ok (by decide +kernel) (fun ad => [some (.ref (ad 3)), some (.ref (ad (6 + 4 * t))), none]) (fun _ => rfl) (fun _ => rfl) (fun _ => Nat.le_of_ble_eq_true rfl) (fun E C0 => ?_)
  have C : gCx SC E RX6 cX6_read 3 (some .int) (d + 44) := C0
  refine G_aload_n (i := 0) C 1 dX6_read_0 rfl rfl rfl ?_
  refine G_aload_n (i := 1) C 2 dX6_read_1 rfl rfl rfl ?_
  refine X6_19p C 5 t ht6 dX6_read_2 rfl (fun s2 es2 => ?_)
  refine G_aload_n (i := 0) C 6 dX6_read_5 rfl rfl rfl ?_
  refine X6_19g C 9 t ht6 (by rw [es2, g_up_sj]; exact if_pos rfl) dX6_read_6 rfl ?_
  refine G_iconst (v := 0) C 10 dX6_read_9 rfl rfl ?_
  refine X6_23p C ht6 13 dX6_read_10 rfl (fun s10 es10 => ?_)
  refine G_aload_n (i := 0) C 14 dX6_read_13 rfl rfl rfl ?_
  refine G_iconst (v := 0) C 15 dX6_read_14 rfl rfl ?_
  refine X6_26p C 18 dX6_read_15 rfl (fun s15 es15 => ?_)
  have h34 : s15 3 4 = nI 0 := by rw [es15, g_up_sj, if_pos rfl]; rfl
  have h31 : s15 3 1 = nI e := by rw [es15, g_up_sj, if_neg (by decide), es10, g_up_n (by omega), es2, g_up_sj, if_neg (by decide)]; exact he
  have h36 : s15 3 6 = nI (6 + 4 * t) := by rw [es15, g_up_sj, if_neg (by decide), es10, g_up_n (by omega), es2, g_up_sj, if_pos rfl]
  have h44 : s15 4 = f := by rw [es15, g_up_n (by decide), es10, g_up_n (by omega), es2, g_up_n (by decide)]; exact h4
  have hz0 : s15 (6 + 4 * t) 3 = nI 0 := by rw [es15, g_up_n (by omega), es10, g_up_sj, if_pos rfl]; rfl
  have hM15 : c_RD t s s15 := ⟨fun k a b c d => by rw [es15, g_up_n a, es10, g_up_n b, es2, g_up_n a], h31.trans he.symm⟩
  refine G_aload_n (i := 0) C 19 dX6_read_18 rfl rfl rfl ?_
  refine G_callv 22 (G_runV C Kc_X6_advance KV_X6_29 (by omega) (by decide) (eTp _ _ _) rfl (c_X6_advance 0 s15 0 e h34 h31 (Nat.zero_le e) he160 (fun j hj => by rw [h44]; exact hb j hj)) rfl rfl rfl (Nat.le_of_ble_eq_true rfl) rfl dX6_read_19) rfl (fun s19 h19 => ?_)
  obtain ⟨hN0, h45, hT0⟩ := c_T_adv h44 h19
  have hBB : c_B f e t 0 0 s19 := ⟨hT0, h45, (hN0.2 1 (by decide)).trans h31, (hN0.2 6 (by decide)).trans h36, by rw [hN0.1 _ (by omega)]; exact hz0⟩
  have hS : c_S s19 t 0 ([] : List Nat) := c_S0 hBB.2.2.2.2
  have hM : c_RD t s s19 := c_RD.N hM15 hN0
  have hEN : c_EN t ([] : List Nat) s19 := fun i z hz => absurd hz (by simp)
  refine G_iconst (v := 0) C 23 dX6_read_22 rfl rfl ?_
  refine G_istore_n (i := 2) (L' := [some (.ref (e_ad E 3)), some (.ref (e_ad E (6 + 4 * t))), some (.int 0)]) C 24 dX6_read_23 rfl rfl (Nat.le_of_ble_eq_true rfl) rfl rfl ?_
  refine G_iload_n (i := 2) C 25 dX6_read_24 rfl rfl rfl ?_
  refine G_iconst (v := 3) C 26 dX6_read_25 rfl rfl ?_
  refine G_icmp_ge C 97 29 dX6_read_26 rfl rfl (fun c => absurd c (by decide)) (fun _ => ?_)
  refine G_aload_n (i := 0) C 30 dX6_read_29 rfl rfl rfl ?_
  refine X6_32g C 33 dX6_read_30 rfl (fun x30 ex30 => ?_)
  have Sx30 : x30 = c_tk (t_c f e 0) := ex30.trans hBB.1.1
  refine G_bipush (v := 100) C 35 dX6_read_33 rfl rfl ?_
  refine G_iload_n (i := 2) C 36 dX6_read_35 rfl rfl rfl ?_
  refine G_iadd C 37 dX6_read_36 rfl (fun x36 ex36 => ?_)
  obtain rfl : x36 = 100 := ex36.trans (by decide)
  refine G_icmp_eq C 45 40 dX6_read_37 rfl rfl (fun c37 => ?_) (fun c37 => ?_)
  ·
    have hy_0 : t_c f e 0 = 20 := c_tk_eq (t_c_ok f e 0) (by unfold t_okc; omega) (by decide) (Sx30.symm.trans (c37.trans (by decide +kernel : (100 : Int32) = c_tk 20)))
    have hn_0 := t_n_lt (Nat.zero_le e) (by rw [hy_0]; decide : ¬ t_c f e 0 = 0)
    refine G_aload_n (i := 0) C 46 dX6_read_45 rfl rfl rfl ?_
    refine G_callv 49 (G_runV C Kc_X6_advance KV_X6_29 (by omega) (by decide) (eTp _ _ _) rfl (c_X6_advance 0 s19 (t_n f e 0) e hBB.1.2.2.1 hBB.2.2.1 hn_0.2 he160 (fun j hj => by rw [hBB.2.1]; exact hb j hj)) rfl rfl rfl (Nat.le_of_ble_eq_true rfl) rfl dX6_read_46) rfl (fun s46 h46 => ?_)
    have hM_1 : c_RD t s s46 := c_RD.N hM (c_B.adv hBB h46).1
    have hS_1 : c_S s46 t 0 ([] : List Nat) := c_S_N hS (c_B.adv hBB h46).1
    have hEN_1 : c_EN t ([] : List Nat) s46 := c_EN.N hEN (c_B.adv hBB h46).1
    have hBB_1 : c_B f e t 0 (t_n f e 0) s46 := (c_B.adv hBB h46).2
    refine G_aload_n (i := 0) C 50 dX6_read_49 rfl rfl rfl ?_
    refine G_iconst (v := 0) C 51 dX6_read_50 rfl rfl ?_
    refine G_calli 54 (G_runV C Kc_X6_readEither KV_X6_38 (by omega) (by decide) (eTp _ _ _) rfl (c_top 0 f e t 0 (t_n f e 0) s46 0 rfl hBB_1 hn_0.2 (by (try simp only [List.length_append]); omega) he160 ht6 hb) rfl rfl rfl (Nat.le_of_ble_eq_true rfl) rfl dX6_read_51) rfl (fun x51 s51 h51 => ?_)
    have hM_2 : c_RD t s s51 := c_RD.F hM_1 h51.1
    have hEN_2 : c_EN t ([] : List Nat) s51 := c_EN.F hEN_1 h51.1
    refine G_if_eq C 66 57 dX6_read_54 rfl rfl (fun c54 => ?_) (fun c54 => ?_)
    ·
      obtain ⟨p1, hT1, hle1, hg1⟩ := (h51.2.resolve_left (fun y => absurd (y.1.symm.trans c54) (by decide))).2
      clear h51
      obtain ⟨oB, hB_⟩ := c_no_bad hg1
      have hD : ¬ t_ok (t_L f e 0) ∧ t_flt (t_L f e 0) = t_pl f e p1 := ⟨(t_f0  (t_part_ok (Nat.zero_le e) hy_0 hB_)).1, (t_f0  (t_part_ok (Nat.zero_le e) hy_0 hB_)).2.trans (t_hp_L hle1)⟩
      refine G_aload_n (i := 0) C 67 dX6_read_66 rfl rfl rfl ?_
      refine X6_35g C 70 dX6_read_67 rfl (fun x67 ex67 => ?_)
      have Sx67 : x67 = nI (t_pl f e p1) := ex67.trans hT1.2.1
      exact G_iret C dX6_read_70 (⟨hM_2, Or.inr ⟨hD.1, by rw [hD.2]; exact Nat.le_trans (t_pl_le hle1) he160, by rw [hD.2]; exact Sx67⟩⟩)
    ·
      obtain ⟨p1, cs1, hT1, hS1, hlt1, hle1, hl1, hg1⟩ := (h51.2.resolve_right (fun y => c54 y.1)).2
      have hSn1 : c_S s51 t 0 cs1 := c_S_app (a := ([] : List Nat)) hS_1 hS1 h51.1
      have hBn1 : c_B f e t (0 + cs1.length) p1 s51 := c_B.sub (cs := ([] : List Nat)) hBB_1 h51.1 hT1 hS1
      clear h51
      refine G_aload_n (i := 0) C 58 dX6_read_57 rfl rfl rfl ?_
      refine X6_32g C 61 dX6_read_58 rfl (fun x58 ex58 => ?_)
      have Sx58 : x58 = c_tk (t_c f e p1) := ex58.trans hBn1.1.1
      refine G_bipush (v := 59) C 63 dX6_read_61 rfl rfl ?_
      refine G_icmp_eq C 71 66 dX6_read_63 rfl rfl (fun c63 => ?_) (fun c63 => ?_)
      ·
        have hs_1 : t_c f e p1 = 42 := c_tk_eq (t_c_ok f e p1) (by unfold t_okc; omega) (by decide) (Sx58.symm.trans (c63.trans (by decide +kernel : (59 : Int32) = c_tk 42)))
        have hm_1 := t_n_lt hle1 (by rw [hs_1]; decide : ¬ t_c f e p1 = 0)
        have hE1 : t_r1 (t_L f e 0) = (true, t_L f e (t_n f e p1), cs1) := t_part_ok (Nat.zero_le e) hy_0 (c_go_fin hle1 hg1 hs_1)
        refine G_aload_n (i := 0) C 72 dX6_read_71 rfl rfl rfl ?_
        refine G_callv 75 (G_runV C Kc_X6_advance KV_X6_29 (by omega) (by decide) (eTp _ _ _) rfl (c_X6_advance 0 s51 (t_n f e p1) e hBn1.1.2.2.1 hBn1.2.2.1 hm_1.2 he160 (fun j hj => by rw [hBn1.2.1]; exact hb j hj)) rfl rfl rfl (Nat.le_of_ble_eq_true rfl) rfl dX6_read_72) rfl (fun s72 h72 => ?_)
        have hM_3 : c_RD t s s72 := c_RD.N hM_2 (c_B.adv hBn1 h72).1
        have hS_2 : c_S s72 t 0 cs1 := c_S_N hSn1 (c_B.adv hBn1 h72).1
        have hEN_3 : c_EN t ([] : List Nat) s72 := c_EN.N hEN_2 (c_B.adv hBn1 h72).1
        have hBB_2 : c_B f e t (0 + cs1.length) (t_n f e p1) s72 := (c_B.adv hBn1 h72).2
        refine G_aload_n (i := 0) C 76 dX6_read_75 rfl rfl rfl ?_
        refine X6_19g C 79 t ht6 hBB_2.2.2.2.1 dX6_read_76 rfl ?_
        refine X6_42g C ht6 82 dX6_read_79 rfl ?_
        refine G_iload_n (i := 2) C 83 dX6_read_82 rfl rfl rfl ?_
        refine G_aload_n (i := 0) C 84 dX6_read_83 rfl rfl rfl ?_
        refine X6_19g C 87 t ht6 hBB_2.2.2.2.1 dX6_read_84 rfl ?_
        refine X6_23g C ht6 90 dX6_read_87 rfl (fun x87 ex87 => ?_)
        have Sx87 : x87 = nI (0 + cs1.length) := ex87.trans hBB_2.2.2.2.2
        refine G_iast (n := 3) C 91 (lT ht6 (by decide)) (fun σ => eTe _ _ σ ht6) (0) rfl (by omega) (by decide) (Nat.le_of_eq (nT2 ht6).symm) dX6_read_90 rfl (fun s90 es90 => ?_)
        have hM_4 : c_RD t s s90 := c_RD.st hM_3 es90
        have hS_3 : c_S s90 t 0 cs1 := c_S.st hS_2 es90
        have hEN_4 : c_EN t (([] : List Nat) ++ [(0 + cs1.length)]) s90 := c_EN.st hEN_3 rfl Sx87 es90
        have hBB_3 : c_B f e t (0 + cs1.length) (t_n f e p1) s90 := c_B.st hBB_2 es90
        refine G_iinc (w := 1) C 94 dX6_read_91 rfl rfl rfl rfl (fun x91 ex91 => ?_)
        obtain rfl : x91 = 1 := ex91.trans (by decide)
        show GW SC E _ 94 [some (.ref (e_ad E 3)), some (.ref (e_ad E (6 + 4 * t))), some (.int 1)] [] s90
        refine G_goto C 24 dX6_read_94 rfl ?_
        refine G_iload_n (i := 2) C 25 dX6_read_24 rfl rfl rfl ?_
        refine G_iconst (v := 3) C 26 dX6_read_25 rfl rfl ?_
        refine G_icmp_ge C 97 29 dX6_read_26 rfl rfl (fun c => absurd c (by decide)) (fun _ => ?_)
        refine G_aload_n (i := 0) C 30 dX6_read_29 rfl rfl rfl ?_
        refine X6_32g C 33 dX6_read_30 rfl (fun x30_1 ex30_1 => ?_)
        have Sx30_1 : x30_1 = c_tk (t_c f e (t_n f e p1)) := ex30_1.trans hBB_3.1.1
        refine G_bipush (v := 100) C 35 dX6_read_33 rfl rfl ?_
        refine G_iload_n (i := 2) C 36 dX6_read_35 rfl rfl rfl ?_
        refine G_iadd C 37 dX6_read_36 rfl (fun x36_1 ex36_1 => ?_)
        obtain rfl : x36_1 = 101 := ex36_1.trans (by decide)
        refine G_icmp_eq C 45 40 dX6_read_37 rfl rfl (fun c37_1 => ?_) (fun c37_1 => ?_)
        ·
          have hy_1 : t_c f e (t_n f e p1) = 21 := c_tk_eq (t_c_ok f e (t_n f e p1)) (by unfold t_okc; omega) (by decide) (Sx30_1.symm.trans (c37_1.trans (by decide +kernel : (101 : Int32) = c_tk 21)))
          have hn_1 := t_n_lt hm_1.2 (by rw [hy_1]; decide : ¬ t_c f e (t_n f e p1) = 0)
          refine G_aload_n (i := 0) C 46 dX6_read_45 rfl rfl rfl ?_
          refine G_callv 49 (G_runV C Kc_X6_advance KV_X6_29 (by omega) (by decide) (eTp _ _ _) rfl (c_X6_advance 0 s90 (t_n f e (t_n f e p1)) e hBB_3.1.2.2.1 hBB_3.2.2.1 hn_1.2 he160 (fun j hj => by rw [hBB_3.2.1]; exact hb j hj)) rfl rfl rfl (Nat.le_of_ble_eq_true rfl) rfl dX6_read_46) rfl (fun s46_1 h46_1 => ?_)
          have hM_5 : c_RD t s s46_1 := c_RD.N hM_4 (c_B.adv hBB_3 h46_1).1
          have hS_4 : c_S s46_1 t 0 cs1 := c_S_N hS_3 (c_B.adv hBB_3 h46_1).1
          have hEN_5 : c_EN t (([] : List Nat) ++ [(0 + cs1.length)]) s46_1 := c_EN.N hEN_4 (c_B.adv hBB_3 h46_1).1
          have hBB_4 : c_B f e t (0 + cs1.length) (t_n f e (t_n f e p1)) s46_1 := (c_B.adv hBB_3 h46_1).2
          refine G_aload_n (i := 0) C 50 dX6_read_49 rfl rfl rfl ?_
          refine G_iconst (v := 0) C 51 dX6_read_50 rfl rfl ?_
          refine G_calli 54 (G_runV C Kc_X6_readEither KV_X6_38 (by omega) (by decide) (eTp _ _ _) rfl (c_top 0 f e t (0 + cs1.length) (t_n f e (t_n f e p1)) s46_1 0 rfl hBB_4 hn_1.2 (by (try simp only [List.length_append]); omega) he160 ht6 hb) rfl rfl rfl (Nat.le_of_ble_eq_true rfl) rfl dX6_read_51) rfl (fun x51_1 s51_1 h51_1 => ?_)
          have hM_6 : c_RD t s s51_1 := c_RD.F hM_5 h51_1.1
          have hEN_6 : c_EN t (([] : List Nat) ++ [(0 + cs1.length)]) s51_1 := c_EN.F hEN_5 h51_1.1
          refine G_if_eq C 66 57 dX6_read_54 rfl rfl (fun c54_1 => ?_) (fun c54_1 => ?_)
          ·
            obtain ⟨p2, hT2, hle2, hg2⟩ := (h51_1.2.resolve_left (fun y => absurd (y.1.symm.trans c54_1) (by decide))).2
            clear h51_1
            obtain ⟨oB, hB_⟩ := c_no_bad hg2
            have hD : ¬ t_ok (t_L f e 0) ∧ t_flt (t_L f e 0) = t_pl f e p2 := ⟨(t_f1 hE1 (t_part_ok hm_1.2 hy_1 hB_)).1, (t_f1 hE1 (t_part_ok hm_1.2 hy_1 hB_)).2.trans (t_hp_L hle2)⟩
            refine G_aload_n (i := 0) C 67 dX6_read_66 rfl rfl rfl ?_
            refine X6_35g C 70 dX6_read_67 rfl (fun x67 ex67 => ?_)
            have Sx67 : x67 = nI (t_pl f e p2) := ex67.trans hT2.2.1
            exact G_iret C dX6_read_70 (⟨hM_6, Or.inr ⟨hD.1, by rw [hD.2]; exact Nat.le_trans (t_pl_le hle2) he160, by rw [hD.2]; exact Sx67⟩⟩)
          ·
            obtain ⟨p2, cs2, hT2, hS2, hlt2, hle2, hl2, hg2⟩ := (h51_1.2.resolve_right (fun y => c54_1 y.1)).2
            have hSn2 : c_S s51_1 t 0 (cs1 ++ cs2) := c_S_app (a := cs1) hS_4 hS2 h51_1.1
            have hBn2 : c_B f e t (0 + (cs1 ++ cs2).length) p2 s51_1 := c_B.sub (cs := cs1) hBB_4 h51_1.1 hT2 hS2
            clear h51_1
            refine G_aload_n (i := 0) C 58 dX6_read_57 rfl rfl rfl ?_
            refine X6_32g C 61 dX6_read_58 rfl (fun x58_1 ex58_1 => ?_)
            have Sx58_1 : x58_1 = c_tk (t_c f e p2) := ex58_1.trans hBn2.1.1
            refine G_bipush (v := 59) C 63 dX6_read_61 rfl rfl ?_
            refine G_icmp_eq C 71 66 dX6_read_63 rfl rfl (fun c63_1 => ?_) (fun c63_1 => ?_)
            ·
              have hs_2 : t_c f e p2 = 42 := c_tk_eq (t_c_ok f e p2) (by unfold t_okc; omega) (by decide) (Sx58_1.symm.trans (c63_1.trans (by decide +kernel : (59 : Int32) = c_tk 42)))
              have hm_2 := t_n_lt hle2 (by rw [hs_2]; decide : ¬ t_c f e p2 = 0)
              have hE2 : t_r2 (t_L f e 0) = (true, t_L f e (t_n f e p2), cs2) := t_e2 hE1 (t_part_ok hm_1.2 hy_1 (c_go_fin hle2 hg2 hs_2))
              refine G_aload_n (i := 0) C 72 dX6_read_71 rfl rfl rfl ?_
              refine G_callv 75 (G_runV C Kc_X6_advance KV_X6_29 (by omega) (by decide) (eTp _ _ _) rfl (c_X6_advance 0 s51_1 (t_n f e p2) e hBn2.1.2.2.1 hBn2.2.2.1 hm_2.2 he160 (fun j hj => by rw [hBn2.2.1]; exact hb j hj)) rfl rfl rfl (Nat.le_of_ble_eq_true rfl) rfl dX6_read_72) rfl (fun s72_1 h72_1 => ?_)
              have hM_7 : c_RD t s s72_1 := c_RD.N hM_6 (c_B.adv hBn2 h72_1).1
              have hS_5 : c_S s72_1 t 0 (cs1 ++ cs2) := c_S_N hSn2 (c_B.adv hBn2 h72_1).1
              have hEN_7 : c_EN t (([] : List Nat) ++ [(0 + cs1.length)]) s72_1 := c_EN.N hEN_6 (c_B.adv hBn2 h72_1).1
              have hBB_5 : c_B f e t (0 + (cs1 ++ cs2).length) (t_n f e p2) s72_1 := (c_B.adv hBn2 h72_1).2
              refine G_aload_n (i := 0) C 76 dX6_read_75 rfl rfl rfl ?_
              refine X6_19g C 79 t ht6 hBB_5.2.2.2.1 dX6_read_76 rfl ?_
              refine X6_42g C ht6 82 dX6_read_79 rfl ?_
              refine G_iload_n (i := 2) C 83 dX6_read_82 rfl rfl rfl ?_
              refine G_aload_n (i := 0) C 84 dX6_read_83 rfl rfl rfl ?_
              refine X6_19g C 87 t ht6 hBB_5.2.2.2.1 dX6_read_84 rfl ?_
              refine X6_23g C ht6 90 dX6_read_87 rfl (fun x87_1 ex87_1 => ?_)
              have Sx87_1 : x87_1 = nI (0 + (cs1 ++ cs2).length) := ex87_1.trans hBB_5.2.2.2.2
              refine G_iast (n := 3) C 91 (lT ht6 (by decide)) (fun σ => eTe _ _ σ ht6) (1) rfl (by omega) (by decide) (Nat.le_of_eq (nT2 ht6).symm) dX6_read_90 rfl (fun s90_1 es90_1 => ?_)
              have hM_8 : c_RD t s s90_1 := c_RD.st hM_7 es90_1
              have hS_6 : c_S s90_1 t 0 (cs1 ++ cs2) := c_S.st hS_5 es90_1
              have hEN_8 : c_EN t ((([] : List Nat) ++ [(0 + cs1.length)]) ++ [(0 + (cs1 ++ cs2).length)]) s90_1 := c_EN.st hEN_7 rfl Sx87_1 es90_1
              have hBB_6 : c_B f e t (0 + (cs1 ++ cs2).length) (t_n f e p2) s90_1 := c_B.st hBB_5 es90_1
              refine G_iinc (w := 1) C 94 dX6_read_91 rfl rfl rfl rfl (fun x91_1 ex91_1 => ?_)
              obtain rfl : x91_1 = 2 := ex91_1.trans (by decide)
              show GW SC E _ 94 [some (.ref (e_ad E 3)), some (.ref (e_ad E (6 + 4 * t))), some (.int 2)] [] s90_1
              refine G_goto C 24 dX6_read_94 rfl ?_
              refine G_iload_n (i := 2) C 25 dX6_read_24 rfl rfl rfl ?_
              refine G_iconst (v := 3) C 26 dX6_read_25 rfl rfl ?_
              refine G_icmp_ge C 97 29 dX6_read_26 rfl rfl (fun c => absurd c (by decide)) (fun _ => ?_)
              refine G_aload_n (i := 0) C 30 dX6_read_29 rfl rfl rfl ?_
              refine X6_32g C 33 dX6_read_30 rfl (fun x30_2 ex30_2 => ?_)
              have Sx30_2 : x30_2 = c_tk (t_c f e (t_n f e p2)) := ex30_2.trans hBB_6.1.1
              refine G_bipush (v := 100) C 35 dX6_read_33 rfl rfl ?_
              refine G_iload_n (i := 2) C 36 dX6_read_35 rfl rfl rfl ?_
              refine G_iadd C 37 dX6_read_36 rfl (fun x36_2 ex36_2 => ?_)
              obtain rfl : x36_2 = 102 := ex36_2.trans (by decide)
              refine G_icmp_eq C 45 40 dX6_read_37 rfl rfl (fun c37_2 => ?_) (fun c37_2 => ?_)
              ·
                have hy_2 : t_c f e (t_n f e p2) = 22 := c_tk_eq (t_c_ok f e (t_n f e p2)) (by unfold t_okc; omega) (by decide) (Sx30_2.symm.trans (c37_2.trans (by decide +kernel : (102 : Int32) = c_tk 22)))
                have hn_2 := t_n_lt hm_2.2 (by rw [hy_2]; decide : ¬ t_c f e (t_n f e p2) = 0)
                refine G_aload_n (i := 0) C 46 dX6_read_45 rfl rfl rfl ?_
                refine G_callv 49 (G_runV C Kc_X6_advance KV_X6_29 (by omega) (by decide) (eTp _ _ _) rfl (c_X6_advance 0 s90_1 (t_n f e (t_n f e p2)) e hBB_6.1.2.2.1 hBB_6.2.2.1 hn_2.2 he160 (fun j hj => by rw [hBB_6.2.1]; exact hb j hj)) rfl rfl rfl (Nat.le_of_ble_eq_true rfl) rfl dX6_read_46) rfl (fun s46_2 h46_2 => ?_)
                have hM_9 : c_RD t s s46_2 := c_RD.N hM_8 (c_B.adv hBB_6 h46_2).1
                have hS_7 : c_S s46_2 t 0 (cs1 ++ cs2) := c_S_N hS_6 (c_B.adv hBB_6 h46_2).1
                have hEN_9 : c_EN t ((([] : List Nat) ++ [(0 + cs1.length)]) ++ [(0 + (cs1 ++ cs2).length)]) s46_2 := c_EN.N hEN_8 (c_B.adv hBB_6 h46_2).1
                have hBB_7 : c_B f e t (0 + (cs1 ++ cs2).length) (t_n f e (t_n f e p2)) s46_2 := (c_B.adv hBB_6 h46_2).2
                refine G_aload_n (i := 0) C 50 dX6_read_49 rfl rfl rfl ?_
                refine G_iconst (v := 0) C 51 dX6_read_50 rfl rfl ?_
                refine G_calli 54 (G_runV C Kc_X6_readEither KV_X6_38 (by omega) (by decide) (eTp _ _ _) rfl (c_top 0 f e t (0 + (cs1 ++ cs2).length) (t_n f e (t_n f e p2)) s46_2 0 rfl hBB_7 hn_2.2 (by (try simp only [List.length_append]); omega) he160 ht6 hb) rfl rfl rfl (Nat.le_of_ble_eq_true rfl) rfl dX6_read_51) rfl (fun x51_2 s51_2 h51_2 => ?_)
                have hM_10 : c_RD t s s51_2 := c_RD.F hM_9 h51_2.1
                have hEN_10 : c_EN t ((([] : List Nat) ++ [(0 + cs1.length)]) ++ [(0 + (cs1 ++ cs2).length)]) s51_2 := c_EN.F hEN_9 h51_2.1
                refine G_if_eq C 66 57 dX6_read_54 rfl rfl (fun c54_2 => ?_) (fun c54_2 => ?_)
                ·
                  obtain ⟨p3, hT3, hle3, hg3⟩ := (h51_2.2.resolve_left (fun y => absurd (y.1.symm.trans c54_2) (by decide))).2
                  clear h51_2
                  obtain ⟨oB, hB_⟩ := c_no_bad hg3
                  have hD : ¬ t_ok (t_L f e 0) ∧ t_flt (t_L f e 0) = t_pl f e p3 := ⟨(t_f2 hE1 hE2 (t_part_ok hm_2.2 hy_2 hB_)).1, (t_f2 hE1 hE2 (t_part_ok hm_2.2 hy_2 hB_)).2.trans (t_hp_L hle3)⟩
                  refine G_aload_n (i := 0) C 67 dX6_read_66 rfl rfl rfl ?_
                  refine X6_35g C 70 dX6_read_67 rfl (fun x67 ex67 => ?_)
                  have Sx67 : x67 = nI (t_pl f e p3) := ex67.trans hT3.2.1
                  exact G_iret C dX6_read_70 (⟨hM_10, Or.inr ⟨hD.1, by rw [hD.2]; exact Nat.le_trans (t_pl_le hle3) he160, by rw [hD.2]; exact Sx67⟩⟩)
                ·
                  obtain ⟨p3, cs3, hT3, hS3, hlt3, hle3, hl3, hg3⟩ := (h51_2.2.resolve_right (fun y => c54_2 y.1)).2
                  have hSn3 : c_S s51_2 t 0 ((cs1 ++ cs2) ++ cs3) := c_S_app (a := (cs1 ++ cs2)) hS_7 hS3 h51_2.1
                  have hBn3 : c_B f e t (0 + ((cs1 ++ cs2) ++ cs3).length) p3 s51_2 := c_B.sub (cs := (cs1 ++ cs2)) hBB_7 h51_2.1 hT3 hS3
                  clear h51_2
                  refine G_aload_n (i := 0) C 58 dX6_read_57 rfl rfl rfl ?_
                  refine X6_32g C 61 dX6_read_58 rfl (fun x58_2 ex58_2 => ?_)
                  have Sx58_2 : x58_2 = c_tk (t_c f e p3) := ex58_2.trans hBn3.1.1
                  refine G_bipush (v := 59) C 63 dX6_read_61 rfl rfl ?_
                  refine G_icmp_eq C 71 66 dX6_read_63 rfl rfl (fun c63_2 => ?_) (fun c63_2 => ?_)
                  ·
                    have hs_3 : t_c f e p3 = 42 := c_tk_eq (t_c_ok f e p3) (by unfold t_okc; omega) (by decide) (Sx58_2.symm.trans (c63_2.trans (by decide +kernel : (59 : Int32) = c_tk 42)))
                    have hm_3 := t_n_lt hle3 (by rw [hs_3]; decide : ¬ t_c f e p3 = 0)
                    have hE3 : t_r3 (t_L f e 0) = (true, t_L f e (t_n f e p3), cs3) := t_e3 hE2 (t_part_ok hm_2.2 hy_2 (c_go_fin hle3 hg3 hs_3))
                    refine G_aload_n (i := 0) C 72 dX6_read_71 rfl rfl rfl ?_
                    refine G_callv 75 (G_runV C Kc_X6_advance KV_X6_29 (by omega) (by decide) (eTp _ _ _) rfl (c_X6_advance 0 s51_2 (t_n f e p3) e hBn3.1.2.2.1 hBn3.2.2.1 hm_3.2 he160 (fun j hj => by rw [hBn3.2.1]; exact hb j hj)) rfl rfl rfl (Nat.le_of_ble_eq_true rfl) rfl dX6_read_72) rfl (fun s72_2 h72_2 => ?_)
                    have hM_11 : c_RD t s s72_2 := c_RD.N hM_10 (c_B.adv hBn3 h72_2).1
                    have hS_8 : c_S s72_2 t 0 ((cs1 ++ cs2) ++ cs3) := c_S_N hSn3 (c_B.adv hBn3 h72_2).1
                    have hEN_11 : c_EN t ((([] : List Nat) ++ [(0 + cs1.length)]) ++ [(0 + (cs1 ++ cs2).length)]) s72_2 := c_EN.N hEN_10 (c_B.adv hBn3 h72_2).1
                    have hBB_8 : c_B f e t (0 + ((cs1 ++ cs2) ++ cs3).length) (t_n f e p3) s72_2 := (c_B.adv hBn3 h72_2).2
                    refine G_aload_n (i := 0) C 76 dX6_read_75 rfl rfl rfl ?_
                    refine X6_19g C 79 t ht6 hBB_8.2.2.2.1 dX6_read_76 rfl ?_
                    refine X6_42g C ht6 82 dX6_read_79 rfl ?_
                    refine G_iload_n (i := 2) C 83 dX6_read_82 rfl rfl rfl ?_
                    refine G_aload_n (i := 0) C 84 dX6_read_83 rfl rfl rfl ?_
                    refine X6_19g C 87 t ht6 hBB_8.2.2.2.1 dX6_read_84 rfl ?_
                    refine X6_23g C ht6 90 dX6_read_87 rfl (fun x87_2 ex87_2 => ?_)
                    have Sx87_2 : x87_2 = nI (0 + ((cs1 ++ cs2) ++ cs3).length) := ex87_2.trans hBB_8.2.2.2.2
                    refine G_iast (n := 3) C 91 (lT ht6 (by decide)) (fun σ => eTe _ _ σ ht6) (2) rfl (by omega) (by decide) (Nat.le_of_eq (nT2 ht6).symm) dX6_read_90 rfl (fun s90_2 es90_2 => ?_)
                    have hM_12 : c_RD t s s90_2 := c_RD.st hM_11 es90_2
                    have hS_9 : c_S s90_2 t 0 ((cs1 ++ cs2) ++ cs3) := c_S.st hS_8 es90_2
                    have hEN_12 : c_EN t (((([] : List Nat) ++ [(0 + cs1.length)]) ++ [(0 + (cs1 ++ cs2).length)]) ++ [(0 + ((cs1 ++ cs2) ++ cs3).length)]) s90_2 := c_EN.st hEN_11 rfl Sx87_2 es90_2
                    have hBB_9 : c_B f e t (0 + ((cs1 ++ cs2) ++ cs3).length) (t_n f e p3) s90_2 := c_B.st hBB_8 es90_2
                    refine G_iinc (w := 1) C 94 dX6_read_91 rfl rfl rfl rfl (fun x91_2 ex91_2 => ?_)
                    obtain rfl : x91_2 = 3 := ex91_2.trans (by decide)
                    show GW SC E _ 94 [some (.ref (e_ad E 3)), some (.ref (e_ad E (6 + 4 * t))), some (.int 3)] [] s90_2
                    refine G_goto C 24 dX6_read_94 rfl ?_
                    refine G_iload_n (i := 2) C 25 dX6_read_24 rfl rfl rfl ?_
                    refine G_iconst (v := 3) C 26 dX6_read_25 rfl rfl ?_
                    refine G_icmp_ge C 97 29 dX6_read_26 rfl rfl (fun _ => ?_) (fun c => absurd c (by decide))
                    refine G_aload_n (i := 0) C 98 dX6_read_97 rfl rfl rfl ?_
                    refine X6_32g C 101 dX6_read_98 rfl (fun x98 ex98 => ?_)
                    have Sx98 : x98 = c_tk (t_c f e (t_n f e p3)) := ex98.trans hBB_9.1.1
                    refine G_if_ne C 108 104 dX6_read_101 rfl rfl (fun c101 => ?_) (fun c101 => ?_)
                    ·
                      have hne : ¬ t_c f e (t_n f e p3) = 0 := fun z => c101 (Sx98.trans (by rw [z]; decide +kernel))
                      have hD : ¬ t_ok (t_L f e 0) ∧ t_flt (t_L f e 0) = t_pl f e (t_n f e p3) := ⟨(t_f3 hE1 hE2 hE3 (by rw [t_hc_L hm_3.2]; exact hne)).1, (t_f3 hE1 hE2 hE3 (by rw [t_hc_L hm_3.2]; exact hne)).2.trans (t_hp_L hm_3.2)⟩
                      refine G_aload_n (i := 0) C 109 dX6_read_108 rfl rfl rfl ?_
                      refine X6_35g C 112 dX6_read_109 rfl (fun x109 ex109 => ?_)
                      have Sx109 : x109 = nI (t_pl f e (t_n f e p3)) := ex109.trans hBB_9.1.2.1
                      exact G_iret C dX6_read_112 (⟨hM_12, Or.inr ⟨hD.1, by rw [hD.2]; exact Nat.le_trans (t_pl_le hm_3.2) he160, by rw [hD.2]; exact Sx109⟩⟩)
                    ·
                      have hc0 : t_hc (t_L f e (t_n f e p3)) = 0 := (t_hc_L hm_3.2).trans (c_tk_eq (t_c_ok f e (t_n f e p3)) (by unfold t_okc; omega) (by decide) (Sx98.symm.trans (c101.trans (by decide +kernel : (0 : Int32) = c_tk 0))))
                      refine G_iconst (v := (-1)) C 105 dX6_read_104 rfl rfl ?_
                      refine G_goto C 112 dX6_read_105 rfl ?_
                      obtain ⟨hok, hc1, hc2, hc3⟩ := t_f4 hE1 hE2 hE3 hc0
                      exact G_iret C dX6_read_112 (⟨hM_12, Or.inl ⟨hok, rfl, c_cT hc1 hc2 hc3 hEN_12 hS_9 (by simp only [List.length_append]; omega)⟩⟩)
                  ·
                    have hk63 : ¬ t_c f e p3 = 42 := fun z => c63_2 (Sx58_2.trans (by rw [z]; decide +kernel))
                    obtain ⟨oB, hB_⟩ := c_go_bad hle3 hg3 hk63
                    have hD : ¬ t_ok (t_L f e 0) ∧ t_flt (t_L f e 0) = t_pl f e p3 := ⟨(t_f2 hE1 hE2 (t_part_ok hm_2.2 hy_2 hB_)).1, (t_f2 hE1 hE2 (t_part_ok hm_2.2 hy_2 hB_)).2.trans (t_hp_L hle3)⟩
                    refine G_aload_n (i := 0) C 67 dX6_read_66 rfl rfl rfl ?_
                    refine X6_35g C 70 dX6_read_67 rfl (fun x67 ex67 => ?_)
                    have Sx67 : x67 = nI (t_pl f e p3) := ex67.trans hBn3.1.2.1
                    exact G_iret C dX6_read_70 (⟨hM_10, Or.inr ⟨hD.1, by rw [hD.2]; exact Nat.le_trans (t_pl_le hle3) he160, by rw [hD.2]; exact Sx67⟩⟩)
              ·
                have hno : ¬ t_c f e (t_n f e p2) = 22 := fun z => c37_2 (Sx30_2.trans (by rw [z]; decide +kernel))
                have hD : ¬ t_ok (t_L f e 0) ∧ t_flt (t_L f e 0) = t_pl f e (t_n f e p2) := ⟨(t_f2 hE1 hE2 (t_part_no hm_2.2 hno)).1, (t_f2 hE1 hE2 (t_part_no hm_2.2 hno)).2.trans (t_hp_L hm_2.2)⟩
                refine G_aload_n (i := 0) C 41 dX6_read_40 rfl rfl rfl ?_
                refine X6_35g C 44 dX6_read_41 rfl (fun x41 ex41 => ?_)
                have Sx41 : x41 = nI (t_pl f e (t_n f e p2)) := ex41.trans hBB_6.1.2.1
                exact G_iret C dX6_read_44 (⟨hM_8, Or.inr ⟨hD.1, by rw [hD.2]; exact Nat.le_trans (t_pl_le hm_2.2) he160, by rw [hD.2]; exact Sx41⟩⟩)
            ·
              have hk63 : ¬ t_c f e p2 = 42 := fun z => c63_1 (Sx58_1.trans (by rw [z]; decide +kernel))
              obtain ⟨oB, hB_⟩ := c_go_bad hle2 hg2 hk63
              have hD : ¬ t_ok (t_L f e 0) ∧ t_flt (t_L f e 0) = t_pl f e p2 := ⟨(t_f1 hE1 (t_part_ok hm_1.2 hy_1 hB_)).1, (t_f1 hE1 (t_part_ok hm_1.2 hy_1 hB_)).2.trans (t_hp_L hle2)⟩
              refine G_aload_n (i := 0) C 67 dX6_read_66 rfl rfl rfl ?_
              refine X6_35g C 70 dX6_read_67 rfl (fun x67 ex67 => ?_)
              have Sx67 : x67 = nI (t_pl f e p2) := ex67.trans hBn2.1.2.1
              exact G_iret C dX6_read_70 (⟨hM_6, Or.inr ⟨hD.1, by rw [hD.2]; exact Nat.le_trans (t_pl_le hle2) he160, by rw [hD.2]; exact Sx67⟩⟩)
        ·
          have hno : ¬ t_c f e (t_n f e p1) = 21 := fun z => c37_1 (Sx30_1.trans (by rw [z]; decide +kernel))
          have hD : ¬ t_ok (t_L f e 0) ∧ t_flt (t_L f e 0) = t_pl f e (t_n f e p1) := ⟨(t_f1 hE1 (t_part_no hm_1.2 hno)).1, (t_f1 hE1 (t_part_no hm_1.2 hno)).2.trans (t_hp_L hm_1.2)⟩
          refine G_aload_n (i := 0) C 41 dX6_read_40 rfl rfl rfl ?_
          refine X6_35g C 44 dX6_read_41 rfl (fun x41 ex41 => ?_)
          have Sx41 : x41 = nI (t_pl f e (t_n f e p1)) := ex41.trans hBB_3.1.2.1
          exact G_iret C dX6_read_44 (⟨hM_4, Or.inr ⟨hD.1, by rw [hD.2]; exact Nat.le_trans (t_pl_le hm_1.2) he160, by rw [hD.2]; exact Sx41⟩⟩)
      ·
        have hk63 : ¬ t_c f e p1 = 42 := fun z => c63 (Sx58.trans (by rw [z]; decide +kernel))
        obtain ⟨oB, hB_⟩ := c_go_bad hle1 hg1 hk63
        have hD : ¬ t_ok (t_L f e 0) ∧ t_flt (t_L f e 0) = t_pl f e p1 := ⟨(t_f0  (t_part_ok (Nat.zero_le e) hy_0 hB_)).1, (t_f0  (t_part_ok (Nat.zero_le e) hy_0 hB_)).2.trans (t_hp_L hle1)⟩
        refine G_aload_n (i := 0) C 67 dX6_read_66 rfl rfl rfl ?_
        refine X6_35g C 70 dX6_read_67 rfl (fun x67 ex67 => ?_)
        have Sx67 : x67 = nI (t_pl f e p1) := ex67.trans hBn1.1.2.1
        exact G_iret C dX6_read_70 (⟨hM_2, Or.inr ⟨hD.1, by rw [hD.2]; exact Nat.le_trans (t_pl_le hle1) he160, by rw [hD.2]; exact Sx67⟩⟩)
  ·
    have hno : ¬ t_c f e 0 = 20 := fun z => c37 (Sx30.trans (by rw [z]; decide +kernel))
    have hD : ¬ t_ok (t_L f e 0) ∧ t_flt (t_L f e 0) = t_pl f e 0 := ⟨(t_f0  (t_part_no (Nat.zero_le e) hno)).1, (t_f0  (t_part_no (Nat.zero_le e) hno)).2.trans (t_hp_L (Nat.zero_le e))⟩
    refine G_aload_n (i := 0) C 41 dX6_read_40 rfl rfl rfl ?_
    refine X6_35g C 44 dX6_read_41 rfl (fun x41 ex41 => ?_)
    have Sx41 : x41 = nI (t_pl f e 0) := ex41.trans hBB.1.2.1
    exact G_iret C dX6_read_44 (⟨hM, Or.inr ⟨hD.1, by rw [hD.2]; exact Nat.le_trans (t_pl_le (Nat.zero_le e)) he160, by rw [hD.2]; exact Sx41⟩⟩)
theorem c_nIm {n : Nat} (h : n < 161) (e : nI n = -1) : False := by
  have h1 : (nI n).toInt = n := nI_toInt (by omega)
  rw [e] at h1
  have h2 : ((-1 : Int32)).toInt = -1 := by decide
  omega
theorem dX10_text_0 : decode cX10_text 0 = .ok (.aload_n 0, 1) := by decide +kernel
theorem dX10_text_1 : decode cX10_text 1 = .ok (.getfield 91, 3) := by decide +kernel
theorem dX10_text_4 : decode cX10_text 4 = .ok (.bipush 6, 2) := by decide +kernel
theorem dX10_text_6 : decode cX10_text 6 = .ok (.if_icmp .lt 6, 3) := by decide +kernel
theorem dX10_text_9 : decode cX10_text 9 = .ok (.bipush (-4), 2) := by decide +kernel
theorem dX10_text_11 : decode cX10_text 11 = .ok (.ireturn, 1) := by decide +kernel
theorem dX10_text_12 : decode cX10_text 12 = .ok (.aload_n 0, 1) := by decide +kernel
theorem dX10_text_13 : decode cX10_text 13 = .ok (.getfield 24, 3) := by decide +kernel
theorem dX10_text_16 : decode cX10_text 16 = .ok (.aload_n 0, 1) := by decide +kernel
theorem dX10_text_17 : decode cX10_text 17 = .ok (.getfield 11, 3) := by decide +kernel
theorem dX10_text_20 : decode cX10_text 20 = .ok (.aload_n 0, 1) := by decide +kernel
theorem dX10_text_21 : decode cX10_text 21 = .ok (.getfield 91, 3) := by decide +kernel
theorem dX10_text_24 : decode cX10_text 24 = .ok (.aaload, 1) := by decide +kernel
theorem dX10_text_25 : decode cX10_text 25 = .ok (.invokevirtual 83, 3) := by decide +kernel
theorem dX10_text_28 : decode cX10_text 28 = .ok (.istore_n 1, 1) := by decide +kernel
theorem dX10_text_29 : decode cX10_text 29 = .ok (.aload_n 0, 1) := by decide +kernel
theorem dX10_text_30 : decode cX10_text 30 = .ok (.getfield 24, 3) := by decide +kernel
theorem dX10_text_33 : decode cX10_text 33 = .ok (.iconst 0, 1) := by decide +kernel
theorem dX10_text_34 : decode cX10_text 34 = .ok (.putfield 87, 3) := by decide +kernel
theorem dX10_text_37 : decode cX10_text 37 = .ok (.iload_n 1, 1) := by decide +kernel
theorem dX10_text_38 : decode cX10_text 38 = .ok (.iconst (-1), 1) := by decide +kernel
theorem dX10_text_39 : decode cX10_text 39 = .ok (.if_icmp .eq 8, 3) := by decide +kernel
theorem dX10_text_42 : decode cX10_text 42 = .ok (.bipush (-100), 2) := by decide +kernel
theorem dX10_text_44 : decode cX10_text 44 = .ok (.iload_n 1, 1) := by decide +kernel
theorem dX10_text_45 : decode cX10_text 45 = .ok (.isub, 1) := by decide +kernel
theorem dX10_text_46 : decode cX10_text 46 = .ok (.ireturn, 1) := by decide +kernel
theorem dX10_text_47 : decode cX10_text 47 = .ok (.aload_n 0, 1) := by decide +kernel
theorem dX10_text_48 : decode cX10_text 48 = .ok (.dup, 1) := by decide +kernel
theorem dX10_text_49 : decode cX10_text 49 = .ok (.getfield 91, 3) := by decide +kernel
theorem dX10_text_52 : decode cX10_text 52 = .ok (.iconst 1, 1) := by decide +kernel
theorem dX10_text_53 : decode cX10_text 53 = .ok (.iadd, 1) := by decide +kernel
theorem dX10_text_54 : decode cX10_text 54 = .ok (.putfield 91, 3) := by decide +kernel
theorem dX10_text_57 : decode cX10_text 57 = .ok (.aload_n 0, 1) := by decide +kernel
theorem dX10_text_58 : decode cX10_text 58 = .ok (.getfield 91, 3) := by decide +kernel
theorem dX10_text_61 : decode cX10_text 61 = .ok (.iconst 1, 1) := by decide +kernel
theorem dX10_text_62 : decode cX10_text 62 = .ok (.isub, 1) := by decide +kernel
theorem dX10_text_63 : decode cX10_text 63 = .ok (.ireturn, 1) := by decide +kernel
set_option maxHeartbeats 4000000 in
set_option maxRecDepth 100000 in
theorem c_X10_text (d : Nat) (s : gS) (t e : Nat) (ht : s 0 8 = nI t) (ht6 : t ≤ 6) (he : s 3 1 = nI e) (he160 : e ≤ 160) (hb : ∀ j, j < e → ∃ v, v < 256 ∧ s 4 j = nI v) (Q : Int32 → gS → Prop) (hQ : ∀ r s', c_post s t e r s' → Q r s') : gMt SC yX10_text cX10_text 2 (some .int) (d + 45) (fun ad => [.ref (ad 0)]) s (gQi SC (fun r s' => Q r s')) := by
  refine gMt_of SC_ok (by decide +kernel) (fun ad => [some (.ref (ad 0)), none]) (fun _ => rfl) (fun _ => rfl) (fun _ => Nat.le_of_ble_eq_true rfl) (fun E C0 => ?_)
  have C : gCx SC E RX10 cX10_text 2 (some .int) (d + 45) := C0
  refine G_aload_n (i := 0) C 1 dX10_text_0 rfl rfl rfl ?_
  refine X10_91g C 4 dX10_text_1 rfl (fun x1 ex1 => ?_)
  have Sx1 : x1 = nI t := ex1.trans (ht)
  refine G_bipush (v := 6) C 6 dX10_text_4 rfl rfl ?_
  refine G_icmp_lt C 12 9 dX10_text_6 rfl rfl (fun c6 => ?_) (fun c6 => ?_)
  ·
    have n6 : t < 6 := (g_ltN (a := t) (b := 6) (hx := Sx1) (hy := rfl) (by omega) (by omega)).mp c6
    refine G_aload_n (i := 0) C 13 dX10_text_12 rfl rfl rfl ?_
    refine X10_24g C 16 dX10_text_13 rfl ?_
    refine G_aload_n (i := 0) C 17 dX10_text_16 rfl rfl rfl ?_
    refine X10_11g C 20 dX10_text_17 rfl ?_
    refine G_aload_n (i := 0) C 21 dX10_text_20 rfl rfl rfl ?_
    refine X10_91g C 24 dX10_text_21 rfl (fun x21 ex21 => ?_)
    have Sx21 : x21 = nI t := ex21.trans (ht)
    refine G_aald (r := (6 + 4 * t)) C 25 (by decide) (eC1 _ _ _) (fun _ => rfl) (t) Sx21 (by omega) (by decide) rfl dX10_text_24 rfl ?_
    refine G_calli 28 (G_runV C Kc_X6_read KV_X10_83 (by omega) (by decide) (eTp _ _ _) rfl (c_X6_read 0 (s 4) e t s rfl he he160 (by omega) hb) rfl rfl rfl (Nat.le_of_ble_eq_true rfl) rfl dX10_text_25) rfl (fun x25 s25 h25 => ?_)
    refine G_istore_n (i := 1) (L' := [some (.ref (e_ad E 0)), some (.int x25)]) C 29 dX10_text_28 rfl rfl (Nat.le_of_ble_eq_true rfl) rfl rfl ?_
    refine G_aload_n (i := 0) C 30 dX10_text_29 rfl rfl rfl ?_
    refine X10_24g C 33 dX10_text_30 rfl ?_
    refine G_iconst (v := 0) C 34 dX10_text_33 rfl rfl ?_
    refine X10_87p C 37 dX10_text_34 rfl (fun s34 es34 => ?_)
    refine G_iload_n (i := 1) C 38 dX10_text_37 rfl rfl rfl ?_
    refine G_iconst (v := (-1)) C 39 dX10_text_38 rfl rfl ?_
    refine G_icmp_eq C 47 42 dX10_text_39 rfl rfl (fun c39 => ?_) (fun c39 => ?_)
    ·
      refine G_aload_n (i := 0) C 48 dX10_text_47 rfl rfl rfl ?_
      refine G_dup C 49 dX10_text_48 rfl rfl ?_
      refine X10_91g C 52 dX10_text_49 rfl (fun x49 ex49 => ?_)
      have Sx49 : x49 = nI t := ex49.trans (by rw [es34, g_up_n (by decide), h25.1.1 0 (by decide) (by omega) (by omega) (by omega)]; exact ht)
      refine G_iconst (v := 1) C 53 dX10_text_52 rfl rfl ?_
      refine G_iadd C 54 dX10_text_53 rfl (fun x53 ex53 => ?_)
      have Nx53 : x53 = nI (t + 1) := g_addN ex53 Sx49 rfl
      refine X10_91p C 57 dX10_text_54 rfl (fun s54 es54 => ?_)
      refine G_aload_n (i := 0) C 58 dX10_text_57 rfl rfl rfl ?_
      refine X10_91g C 61 dX10_text_58 rfl (fun x58 ex58 => ?_)
      have Sx58 : x58 = nI (t + 1) := ex58.trans (by rw [es54, g_up_sj, if_pos rfl]; exact Nx53)
      refine G_iconst (v := 1) C 62 dX10_text_61 rfl rfl ?_
      refine G_isub C 63 dX10_text_62 rfl (fun x62 ex62 => ?_)
      have Nx62 : x62 = nI t := g_sub1 ex62 Sx58
      obtain ⟨hk, _, hT⟩ := h25.2.resolve_right (fun y => c_nIm (Nat.lt_of_le_of_lt y.2.1 (by decide)) (y.2.2.symm.trans c39))
      have hT2 : cT (fun _ => t_cs (t_L (s 4) e 0)) s54 t := by
        unfold cT at hT ⊢
        rw [es54, g_up_n (by omega), g_up_n (by omega), es34, g_up_n (by omega), g_up_n (by omega)]
        exact hT
      exact G_iret C dX10_text_63 (hQ _ _ (Or.inr ⟨n6, ⟨fun k h0 h3 h6 h7 h8 => by rw [es54, g_up_n h0, es34, g_up_n h3]; exact h25.1.1 k h3 h6 h7 h8, fun j hj => by rw [es54, g_up_sj, if_neg hj, es34, g_up_n (by decide), h25.1.1 0 (by decide) (by omega) (by omega) (by omega)]⟩, by rw [es54, g_up_n (by decide), es34, g_up_sj, if_pos rfl], Or.inl ⟨hk, Nx62, by rw [es54, g_up_sj, if_pos rfl]; exact Nx53, hT2⟩⟩))
    ·
      refine G_bipush (v := (-100)) C 44 dX10_text_42 rfl rfl ?_
      refine G_iload_n (i := 1) C 45 dX10_text_44 rfl rfl rfl ?_
      refine G_isub C 46 dX10_text_45 rfl (fun x45 ex45 => ?_)
      obtain ⟨hk, _, hr⟩ := h25.2.resolve_left (fun y => c39 y.2.1)
      exact G_iret C dX10_text_46 (hQ _ _ (Or.inr ⟨n6, ⟨fun k h0 h3 h6 h7 h8 => by rw [es34, g_up_n h3]; exact h25.1.1 k h3 h6 h7 h8, fun j _ => by rw [es34, g_up_n (by decide), h25.1.1 0 (by decide) (by omega) (by omega) (by omega)]⟩, by rw [es34, g_up_sj, if_pos rfl], Or.inr ⟨hk, by rw [ex45, hr], by rw [es34, g_up_n (by decide), h25.1.1 0 (by decide) (by omega) (by omega) (by omega)]; exact ht⟩⟩))
  ·
    have n6 : ¬ t < 6 := fun hq_ => c6 ((g_ltN (a := t) (b := 6) (hx := Sx1) (hy := rfl) (by omega) (by omega)).mpr hq_)
    refine G_bipush (v := (-4)) C 11 dX10_text_9 rfl rfl ?_
    exact G_iret C dX10_text_11 (hQ _ _ (Or.inl ⟨by omega, rfl, rfl⟩))
