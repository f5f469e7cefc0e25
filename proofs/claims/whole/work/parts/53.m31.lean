theorem t_f0 {ℓ X : List (Nat × Nat)} {Y : List Nat} (h : t_part 0 ℓ = (false, X, Y)) : ¬ t_ok ℓ ∧ t_flt ℓ = t_hp X := by
  have h' : t_r1 ℓ = (false, X, Y) := h
  refine ⟨fun z => absurd (show false = true from (congrArg Prod.fst h').symm.trans z.1) (by decide), ?_⟩
  unfold t_flt
  rw [if_pos (congrArg Prod.fst h'), h']
theorem t_e2 {ℓ L : List (Nat × Nat)} {c : List Nat} {X : Bool × List (Nat × Nat) × List Nat} (h1 : t_r1 ℓ = (true, L, c)) (h : t_part 1 L = X) : t_r2 ℓ = X := by
  unfold t_r2
  rw [h1]
  exact h
theorem t_e3 {ℓ L : List (Nat × Nat)} {c : List Nat} {X : Bool × List (Nat × Nat) × List Nat} (h1 : t_r2 ℓ = (true, L, c)) (h : t_part 2 L = X) : t_r3 ℓ = X := by
  unfold t_r3
  rw [h1]
  exact h
theorem t_nf {X : Bool × List (Nat × Nat) × List Nat} {L : List (Nat × Nat)} {c : List Nat} (h : X = (true, L, c)) : ¬ X.1 = false := fun z => absurd (show true = false from (congrArg Prod.fst h).symm.trans z) (by decide)
theorem t_f1 {ℓ L X : List (Nat × Nat)} {c Y : List Nat} (h1 : t_r1 ℓ = (true, L, c)) (h : t_part 1 L = (false, X, Y)) : ¬ t_ok ℓ ∧ t_flt ℓ = t_hp X := by
  have h' := t_e2 h1 h
  refine ⟨fun z => absurd (show false = true from (congrArg Prod.fst h').symm.trans z.2.1) (by decide), ?_⟩
  unfold t_flt
  rw [if_neg (t_nf h1), if_pos (congrArg Prod.fst h'), h']
theorem t_f2 {ℓ L L2 X : List (Nat × Nat)} {c c2 Y : List Nat} (h1 : t_r1 ℓ = (true, L, c)) (h2 : t_r2 ℓ = (true, L2, c2)) (h : t_part 2 L2 = (false, X, Y)) : ¬ t_ok ℓ ∧ t_flt ℓ = t_hp X := by
  have h' := t_e3 h2 h
  refine ⟨fun z => absurd (show false = true from (congrArg Prod.fst h').symm.trans z.2.2.1) (by decide), ?_⟩
  unfold t_flt
  rw [if_neg (t_nf h1), if_neg (t_nf h2), h']
theorem t_f3 {ℓ L L2 L3 : List (Nat × Nat)} {c c2 c3 : List Nat} (h1 : t_r1 ℓ = (true, L, c)) (h2 : t_r2 ℓ = (true, L2, c2)) (h3 : t_r3 ℓ = (true, L3, c3)) (h : ¬ t_hc L3 = 0) : ¬ t_ok ℓ ∧ t_flt ℓ = t_hp L3 := by
  refine ⟨fun z => h (by have := z.2.2.2; rw [h3] at this; exact this), ?_⟩
  unfold t_flt
  rw [if_neg (t_nf h1), if_neg (t_nf h2), h3]
theorem t_f4 {ℓ L L2 L3 : List (Nat × Nat)} {c c2 c3 : List Nat} (h1 : t_r1 ℓ = (true, L, c)) (h2 : t_r2 ℓ = (true, L2, c2)) (h3 : t_r3 ℓ = (true, L3, c3)) (h : t_hc L3 = 0) : t_ok ℓ ∧ t_cs ℓ 0 = c ∧ t_cs ℓ 1 = c2 ∧ t_cs ℓ 2 = c3 :=
  ⟨⟨congrArg Prod.fst h1, congrArg Prod.fst h2, congrArg Prod.fst h3, by rw [h3]; exact h⟩, (congrArg (fun z => z.2.2) h1), (congrArg (fun z => z.2.2) h2), (congrArg (fun z => z.2.2) h3)⟩
theorem t_n_lt {f : Nat → Int32} {e p : Nat} (hp : p ≤ e) (h : ¬ t_c f e p = 0) : p < t_n f e p ∧ t_n f e p ≤ e := by
  obtain ⟨T, h1, h2⟩ := t_Lx (f := f) hp
  exact (h2 h).2
def t_J (t : Nat) (a b : gS) : Prop := (∀ k, k ≠ 0 → k ≠ 6 → k ≠ 7 → k ≠ 15 → b k = a k) ∧ (∀ j, ¬ (18 ≤ j ∧ j < 27) → j ≠ 6 → j ≠ 9 → b 0 j = a 0 j) ∧ (∀ j, ¬ (200 * t ≤ j ∧ j < 200 * t + 200) → b 6 j = a 6 j) ∧ ∀ j, ¬ (4 * t ≤ j ∧ j < 4 * t + 4) → b 7 j = a 7 j
theorem t_H.J {t j : Nat} {v : Int32} {a b c : gS} (h : t_H t a b) (hj : j = 6 ∨ j = 9) (e : c = g_up b 0 j v) : t_J t a c := ⟨fun k h0 h6 h7 h15 => by rw [e, g_up_n h0]; exact h.1 k h0 h6 h7 h15, fun i hi h6 h9 => by rw [e, g_up_sj, if_neg (by omega)]; exact h.2.1 i hi, fun i hi => by rw [e, g_up_n (by decide)]; exact h.2.2.1 i hi, fun i hi => by rw [e, g_up_n (by decide)]; exact h.2.2.2 i hi⟩
theorem t_J.up {t j : Nat} {v : Int32} {a b c : gS} (h : t_J t a b) (hj : j = 6 ∨ j = 9) (e : c = g_up b 0 j v) : t_J t a c := ⟨fun k h0 h6 h7 h15 => by rw [e, g_up_n h0]; exact h.1 k h0 h6 h7 h15, fun i hi h6 h9 => by rw [e, g_up_sj, if_neg (by omega)]; exact h.2.1 i hi h6 h9, fun i hi => by rw [e, g_up_n (by decide)]; exact h.2.2.1 i hi, fun i hi => by rw [e, g_up_n (by decide)]; exact h.2.2.2 i hi⟩
theorem t_P.up {t j : Nat} {v : Int32} {zs cs : List Nat} {a b : gS} (h : t_P t zs cs a) (hj : ¬ j = 26) (e : b = g_up a 0 j v) : t_P t zs cs b := ⟨by rw [e, g_up_sj, if_neg (fun z => hj z.symm)]; exact h.1, fun i c hc => by rw [e, g_up_n (by decide)]; exact h.2.1 i c hc, fun i z hz => by rw [e, g_up_n (by decide)]; exact h.2.2 i z hz⟩
theorem t_P_e {t : Nat} {zs zs' cs cs' : List Nat} {b : gS} (h : t_P t zs cs b) (h1 : zs = zs') (h2 : cs = cs') : t_P t zs' cs' b := by subst h1; subst h2; exact h
def t_post (s : gS) (t e : Nat) (r : Int32) (s' : gS) : Prop := (t = 6 ∧ r = -4 ∧ s' = s) ∨ (t < 6 ∧ t_J t s s' ∧ s' 0 6 = 0 ∧ ((t_ok (t_L (s 5) e 0) ∧ r = nI t ∧ s' 0 9 = nI (t + 1) ∧ mT (fun _ => t_cs (t_L (s 5) e 0)) s' t) ∨ (¬ t_ok (t_L (s 5) e 0) ∧ r = -100 - nI (t_flt (t_L (s 5) e 0)) ∧ s' 0 9 = nI t)))
theorem dX11_text_0 : decode cX11_text 0 = .ok (.aload_n 0, 1) := by decide +kernel
theorem dX11_text_1 : decode cX11_text 1 = .ok (.getfield 86, 3) := by decide +kernel
theorem dX11_text_4 : decode cX11_text 4 = .ok (.bipush 6, 2) := by decide +kernel
theorem dX11_text_6 : decode cX11_text 6 = .ok (.if_icmp .ne 6, 3) := by decide +kernel
theorem dX11_text_9 : decode cX11_text 9 = .ok (.bipush (-4), 2) := by decide +kernel
theorem dX11_text_11 : decode cX11_text 11 = .ok (.ireturn, 1) := by decide +kernel
theorem dX11_text_12 : decode cX11_text 12 = .ok (.aload_n 0, 1) := by decide +kernel
theorem dX11_text_13 : decode cX11_text 13 = .ok (.iconst 0, 1) := by decide +kernel
theorem dX11_text_14 : decode cX11_text 14 = .ok (.putfield 99, 3) := by decide +kernel
theorem dX11_text_17 : decode cX11_text 17 = .ok (.aload_n 0, 1) := by decide +kernel
theorem dX11_text_18 : decode cX11_text 18 = .ok (.iconst 0, 1) := by decide +kernel
theorem dX11_text_19 : decode cX11_text 19 = .ok (.putfield 115, 3) := by decide +kernel
theorem dX11_text_22 : decode cX11_text 22 = .ok (.iconst 1, 1) := by decide +kernel
theorem dX11_text_23 : decode cX11_text 23 = .ok (.istore_n 1, 1) := by decide +kernel
theorem dX11_text_24 : decode cX11_text 24 = .ok (.iconst 0, 1) := by decide +kernel
theorem dX11_text_25 : decode cX11_text 25 = .ok (.istore_n 2, 1) := by decide +kernel
theorem dX11_text_26 : decode cX11_text 26 = .ok (.iload_n 2, 1) := by decide +kernel
theorem dX11_text_27 : decode cX11_text 27 = .ok (.iconst 3, 1) := by decide +kernel
theorem dX11_text_28 : decode cX11_text 28 = .ok (.if_icmp .ge 73, 3) := by decide +kernel
theorem dX11_text_31 : decode cX11_text 31 = .ok (.iload_n 1, 1) := by decide +kernel
theorem dX11_text_32 : decode cX11_text 32 = .ok (.ifCond .eq 69, 3) := by decide +kernel
theorem dX11_text_35 : decode cX11_text 35 = .ok (.aload_n 0, 1) := by decide +kernel
theorem dX11_text_36 : decode cX11_text 36 = .ok (.invokevirtual 137, 3) := by decide +kernel
theorem dX11_text_39 : decode cX11_text 39 = .ok (.aload_n 0, 1) := by decide +kernel
theorem dX11_text_40 : decode cX11_text 40 = .ok (.getfield 105, 3) := by decide +kernel
theorem dX11_text_43 : decode cX11_text 43 = .ok (.iconst 3, 1) := by decide +kernel
theorem dX11_text_44 : decode cX11_text 44 = .ok (.if_icmp .ne 15, 3) := by decide +kernel
theorem dX11_text_47 : decode cX11_text 47 = .ok (.aload_n 0, 1) := by decide +kernel
theorem dX11_text_48 : decode cX11_text 48 = .ok (.getfield 108, 3) := by decide +kernel
theorem dX11_text_51 : decode cX11_text 51 = .ok (.iload_n 2, 1) := by decide +kernel
theorem dX11_text_52 : decode cX11_text 52 = .ok (.if_icmp .ne 7, 3) := by decide +kernel
theorem dX11_text_55 : decode cX11_text 55 = .ok (.iconst 1, 1) := by decide +kernel
theorem dX11_text_56 : decode cX11_text 56 = .ok (.goto 4, 3) := by decide +kernel
theorem dX11_text_59 : decode cX11_text 59 = .ok (.iconst 0, 1) := by decide +kernel
theorem dX11_text_60 : decode cX11_text 60 = .ok (.istore_n 1, 1) := by decide +kernel
theorem dX11_text_61 : decode cX11_text 61 = .ok (.aload_n 0, 1) := by decide +kernel
theorem dX11_text_62 : decode cX11_text 62 = .ok (.getfield 28, 3) := by decide +kernel
theorem dX11_text_65 : decode cX11_text 65 = .ok (.iconst 4, 1) := by decide +kernel
theorem dX11_text_66 : decode cX11_text 66 = .ok (.aload_n 0, 1) := by decide +kernel
theorem dX11_text_67 : decode cX11_text 67 = .ok (.getfield 86, 3) := by decide +kernel
theorem dX11_text_70 : decode cX11_text 70 = .ok (.imul, 1) := by decide +kernel
theorem dX11_text_71 : decode cX11_text 71 = .ok (.iload_n 2, 1) := by decide +kernel
theorem dX11_text_72 : decode cX11_text 72 = .ok (.iadd, 1) := by decide +kernel
theorem dX11_text_73 : decode cX11_text 73 = .ok (.aload_n 0, 1) := by decide +kernel
theorem dX11_text_74 : decode cX11_text 74 = .ok (.getfield 115, 3) := by decide +kernel
theorem dX11_text_77 : decode cX11_text 77 = .ok (.iastore, 1) := by decide +kernel
theorem dX11_text_78 : decode cX11_text 78 = .ok (.iload_n 1, 1) := by decide +kernel
theorem dX11_text_79 : decode cX11_text 79 = .ok (.ifCond .eq 14, 3) := by decide +kernel
theorem dX11_text_82 : decode cX11_text 82 = .ok (.aload_n 0, 1) := by decide +kernel
theorem dX11_text_83 : decode cX11_text 83 = .ok (.invokevirtual 150, 3) := by decide +kernel
theorem dX11_text_86 : decode cX11_text 86 = .ok (.ifCond .eq 7, 3) := by decide +kernel
theorem dX11_text_89 : decode cX11_text 89 = .ok (.iconst 1, 1) := by decide +kernel
theorem dX11_text_90 : decode cX11_text 90 = .ok (.goto 4, 3) := by decide +kernel
theorem dX11_text_93 : decode cX11_text 93 = .ok (.iconst 0, 1) := by decide +kernel
theorem dX11_text_94 : decode cX11_text 94 = .ok (.istore_n 1, 1) := by decide +kernel
theorem dX11_text_95 : decode cX11_text 95 = .ok (.iinc 2 1, 3) := by decide +kernel
theorem dX11_text_98 : decode cX11_text 98 = .ok (.goto (-72), 3) := by decide +kernel
theorem dX11_text_101 : decode cX11_text 101 = .ok (.iload_n 1, 1) := by decide +kernel
theorem dX11_text_102 : decode cX11_text 102 = .ok (.ifCond .eq 20, 3) := by decide +kernel
theorem dX11_text_105 : decode cX11_text 105 = .ok (.aload_n 0, 1) := by decide +kernel
theorem dX11_text_106 : decode cX11_text 106 = .ok (.invokevirtual 137, 3) := by decide +kernel
theorem dX11_text_109 : decode cX11_text 109 = .ok (.aload_n 0, 1) := by decide +kernel
theorem dX11_text_110 : decode cX11_text 110 = .ok (.getfield 105, 3) := by decide +kernel
theorem dX11_text_113 : decode cX11_text 113 = .ok (.ifCond .ne 7, 3) := by decide +kernel
theorem dX11_text_116 : decode cX11_text 116 = .ok (.iconst 1, 1) := by decide +kernel
theorem dX11_text_117 : decode cX11_text 117 = .ok (.goto 4, 3) := by decide +kernel
theorem dX11_text_120 : decode cX11_text 120 = .ok (.iconst 0, 1) := by decide +kernel
theorem dX11_text_121 : decode cX11_text 121 = .ok (.istore_n 1, 1) := by decide +kernel
theorem dX11_text_122 : decode cX11_text 122 = .ok (.aload_n 0, 1) := by decide +kernel
theorem dX11_text_123 : decode cX11_text 123 = .ok (.getfield 28, 3) := by decide +kernel
theorem dX11_text_126 : decode cX11_text 126 = .ok (.iconst 4, 1) := by decide +kernel
theorem dX11_text_127 : decode cX11_text 127 = .ok (.aload_n 0, 1) := by decide +kernel
theorem dX11_text_128 : decode cX11_text 128 = .ok (.getfield 86, 3) := by decide +kernel
theorem dX11_text_131 : decode cX11_text 131 = .ok (.imul, 1) := by decide +kernel
theorem dX11_text_132 : decode cX11_text 132 = .ok (.iconst 3, 1) := by decide +kernel
theorem dX11_text_133 : decode cX11_text 133 = .ok (.iadd, 1) := by decide +kernel
theorem dX11_text_134 : decode cX11_text 134 = .ok (.aload_n 0, 1) := by decide +kernel
theorem dX11_text_135 : decode cX11_text 135 = .ok (.getfield 115, 3) := by decide +kernel
theorem dX11_text_138 : decode cX11_text 138 = .ok (.iastore, 1) := by decide +kernel
theorem dX11_text_139 : decode cX11_text 139 = .ok (.aload_n 0, 1) := by decide +kernel
theorem dX11_text_140 : decode cX11_text 140 = .ok (.iconst 0, 1) := by decide +kernel
theorem dX11_text_141 : decode cX11_text 141 = .ok (.putfield 67, 3) := by decide +kernel
theorem dX11_text_144 : decode cX11_text 144 = .ok (.iload_n 1, 1) := by decide +kernel
theorem dX11_text_145 : decode cX11_text 145 = .ok (.ifCond .ne 11, 3) := by decide +kernel
theorem dX11_text_148 : decode cX11_text 148 = .ok (.bipush (-100), 2) := by decide +kernel
theorem dX11_text_150 : decode cX11_text 150 = .ok (.aload_n 0, 1) := by decide +kernel
theorem dX11_text_151 : decode cX11_text 151 = .ok (.getfield 102, 3) := by decide +kernel
theorem dX11_text_154 : decode cX11_text 154 = .ok (.isub, 1) := by decide +kernel
theorem dX11_text_155 : decode cX11_text 155 = .ok (.ireturn, 1) := by decide +kernel
theorem dX11_text_156 : decode cX11_text 156 = .ok (.aload_n 0, 1) := by decide +kernel
theorem dX11_text_157 : decode cX11_text 157 = .ok (.dup, 1) := by decide +kernel
theorem dX11_text_158 : decode cX11_text 158 = .ok (.getfield 86, 3) := by decide +kernel
theorem dX11_text_161 : decode cX11_text 161 = .ok (.iconst 1, 1) := by decide +kernel
theorem dX11_text_162 : decode cX11_text 162 = .ok (.iadd, 1) := by decide +kernel
theorem dX11_text_163 : decode cX11_text 163 = .ok (.putfield 86, 3) := by decide +kernel
theorem dX11_text_166 : decode cX11_text 166 = .ok (.aload_n 0, 1) := by decide +kernel
theorem dX11_text_167 : decode cX11_text 167 = .ok (.getfield 86, 3) := by decide +kernel
theorem dX11_text_170 : decode cX11_text 170 = .ok (.iconst 1, 1) := by decide +kernel
theorem dX11_text_171 : decode cX11_text 171 = .ok (.isub, 1) := by decide +kernel
theorem dX11_text_172 : decode cX11_text 172 = .ok (.ireturn, 1) := by decide +kernel
set_option maxHeartbeats 4000000 in
set_option maxRecDepth 100000 in
theorem c_X11_text (d : Nat) (s : gS) (t e : Nat) (ht : s 0 9 = nI t) (ht6 : t ≤ 6) (he : s 0 6 = nI e) (he160 : e ≤ 160) (Q : Int32 → gS → Prop) (hQ : ∀ r s', t_post s t e r s' → Q r s') : gMt SM yX11_text cX11_text 3 (some .int) (d + 5) (fun ad => [.ref (ad 0)]) s (gQi SM (fun r s' => Q r s')) := by
  refine gMt_of SM_ok (by decide +kernel) (fun ad => [some (.ref (ad 0)), none, none]) (fun _ => rfl) (fun _ => rfl) (fun _ => Nat.le_of_ble_eq_true rfl) (fun E C0 => ?_)
  have C : gCx SM E RX11 cX11_text 3 (some .int) (d + 5) := C0
  refine G_aload_n (i := 0) C 1 dX11_text_0 rfl rfl rfl ?_
  refine X11_86g C 4 dX11_text_1 rfl (fun x1 ex1 => ?_)
  have Sx1 : x1 = nI t := ex1.trans (ht)
  refine G_bipush (v := 6) C 6 dX11_text_4 rfl rfl ?_
  refine G_icmp_ne C 12 9 dX11_text_6 rfl rfl (fun c6 => ?_) (fun c6 => ?_)
  ·
    have n6 : ¬ t = 6 := fun hq_ => c6 ((g_eqN (a := t) (b := 6) (hx := Sx1) (hy := rfl) (by omega) (by omega)).mpr hq_)
    refine G_aload_n (i := 0) C 13 dX11_text_12 rfl rfl rfl ?_
    refine G_iconst (v := 0) C 14 dX11_text_13 rfl rfl ?_
    refine X11_99p C 17 dX11_text_14 rfl (fun s14 es14 => ?_)
    refine G_aload_n (i := 0) C 18 dX11_text_17 rfl rfl rfl ?_
    refine G_iconst (v := 0) C 19 dX11_text_18 rfl rfl ?_
    refine X11_115p C 22 dX11_text_19 rfl (fun s19 es19 => ?_)
    have hH0 : t_H t s s19 := t_H.tr (t_H.up0 es14 (by decide)) (t_H.up0 es19 (by decide))
    have hQ0 : t_P t [] [] s19 := ⟨by rw [es19, g_up_sj, if_pos rfl]; rfl, fun i c hc => absurd hc (by simp), fun i z hz => absurd hz (by simp)⟩
    have hA0 : s19 0 18 = nI 0 := by rw [es19, g_up_sj, if_neg (by decide), es14, g_up_sj, if_pos rfl]; rfl
    have hb0 : ([] : List Nat).length ≤ 0 := Nat.zero_le 0
    refine G_iconst (v := 1) C 23 dX11_text_22 rfl rfl ?_
    refine G_istore_n (i := 1) (L' := [some (.ref (e_ad E 0)), some (.int 1), none]) C 24 dX11_text_23 rfl rfl (Nat.le_of_ble_eq_true rfl) rfl rfl ?_
    refine G_iconst (v := 0) C 25 dX11_text_24 rfl rfl ?_
    refine G_istore_n (i := 2) (L' := [some (.ref (e_ad E 0)), some (.int 1), some (.int 0)]) C 26 dX11_text_25 rfl rfl (Nat.le_of_ble_eq_true rfl) rfl rfl ?_
    refine G_iload_n (i := 2) C 27 dX11_text_26 rfl rfl rfl ?_
    refine G_iconst (v := 3) C 28 dX11_text_27 rfl rfl ?_
    refine G_icmp_ge C 101 31 dX11_text_28 rfl rfl (fun c => absurd c (by decide)) (fun _ => ?_)
    refine G_iload_n (i := 1) C 32 dX11_text_31 rfl rfl rfl ?_
    refine G_if_eq C 101 35 dX11_text_32 rfl rfl (fun c => absurd c (by decide)) (fun _ => ?_)
    refine G_aload_n (i := 0) C 36 dX11_text_35 rfl rfl rfl ?_
    have hc5_0 : s19 5 = s 5 := hH0.1 5 (by decide) (by decide) (by decide) (by decide)
    refine G_callv 39 (G_runV C Kc_X11_next KV_X11_137 (by omega) (by decide) (eM _ _ _) rfl (c_X11_next 0 s19 0 e hA0 ((hH0.2.1 6 (by decide)).trans he) (Nat.zero_le e) he160) rfl rfl rfl (Nat.le_of_ble_eq_true rfl) rfl dX11_text_36) rfl (fun s36 h36 => ?_)
    have H_1 : t_H t s s36 := t_H.tr hH0 (t_N.H h36.1)
    have Q_1 : t_P t ([] : List Nat) ([] : List Nat) s36 := t_P.N hQ0 h36.1
    rw [hc5_0] at h36
    obtain ⟨hN_0, hb_0, hn_0, hk_0, hV_0⟩ := h36
    refine G_aload_n (i := 0) C 40 dX11_text_39 rfl rfl rfl ?_
    refine X11_105g C 43 dX11_text_40 rfl (fun x40 ex40 => ?_)
    refine G_iconst (v := 3) C 44 dX11_text_43 rfl rfl ?_
    refine G_icmp_ne C 59 47 dX11_text_44 rfl rfl (fun c44 => ?_) (fun c44 => ?_)
    ·
      have hno : ¬ t_c (s 5) e 0 = 20 + 0 := t_k3n (fun z => c44 (ex40.trans (hk_0.trans z))) (by decide)
      have hD : ¬ t_ok (t_L (s 5) e 0) ∧ t_flt (t_L (s 5) e 0) = (t_pl (s 5) e 0) := ⟨(t_f0  (t_part_no (Nat.zero_le e) hno)).1, (t_f0  (t_part_no (Nat.zero_le e) hno)).2.trans (t_hp_L (Nat.zero_le e))⟩
      have hZ0 : s36 0 19 = nI (t_pl (s 5) e 0) := hb_0
      refine G_iconst (v := 0) C 60 dX11_text_59 rfl rfl ?_
      refine G_istore_n (i := 1) (L' := [some (.ref (e_ad E 0)), some (.int 0), some (.int 0)]) C 61 dX11_text_60 rfl rfl (Nat.le_of_ble_eq_true rfl) rfl rfl ?_
      refine G_aload_n (i := 0) C 62 dX11_text_61 rfl rfl rfl ?_
      refine X11_28g C 65 dX11_text_62 rfl ?_
      refine G_iconst (v := 4) C 66 dX11_text_65 rfl rfl ?_
      refine G_aload_n (i := 0) C 67 dX11_text_66 rfl rfl rfl ?_
      refine X11_86g C 70 dX11_text_67 rfl (fun x67 ex67 => ?_)
      have Sx67 : x67 = nI t := ex67.trans ((H_1.2.1 9 (by decide)).trans ht)
      refine G_imul C 71 dX11_text_70 rfl (fun x70 ex70 => ?_)
      have Nx70 : x70 = nI (4 * t) := g_mulN ex70 rfl Sx67
      refine G_iload_n (i := 2) C 72 dX11_text_71 rfl rfl rfl ?_
      refine G_iadd C 73 dX11_text_72 rfl (fun x72 ex72 => ?_)
      have Nx72 : x72 = nI ((4 * t) + 0) := g_addN ex72 Nx70 rfl
      refine G_aload_n (i := 0) C 74 dX11_text_73 rfl rfl rfl ?_
      refine X11_115g C 77 dX11_text_74 rfl (fun x74 ex74 => ?_)
      refine G_iast (n := 24) C 78 (by decide) (fun σ => eMk (by decide) _ _ σ) (((4 * t) + 0)) Nx72 (by omega) (by decide) (Nat.le_refl _) dX11_text_77 rfl (fun s77 es77 => ?_)
      have H_2 : t_H t s s77 := t_H.tr H_1 (t_H.st (by decide) es77)
      have Z_1 : s77 0 19 = nI (t_pl (s 5) e 0) := by rw [es77, g_up_n (by decide)]; exact hZ0
      refine G_iload_n (i := 1) C 79 dX11_text_78 rfl rfl rfl ?_
      refine G_if_eq C 93 82 dX11_text_79 rfl rfl (fun _ => ?_) (fun c => absurd c (by decide))
      refine G_iconst (v := 0) C 94 dX11_text_93 rfl rfl ?_
      refine G_istore_n (i := 1) (L' := [some (.ref (e_ad E 0)), some (.int 0), some (.int 0)]) C 95 dX11_text_94 rfl rfl (Nat.le_of_ble_eq_true rfl) rfl rfl ?_
      refine G_iinc (w := 1) C 98 dX11_text_95 rfl rfl rfl rfl (fun x95 ex95 => ?_)
      obtain rfl : x95 = 1 := ex95.trans (by decide)
      show GW SM E _ 98 [some (.ref (e_ad E 0)), some (.int 0), some (.int 1)] [] s77
      refine G_goto C 26 dX11_text_98 rfl ?_
      refine G_iload_n (i := 2) C 27 dX11_text_26 rfl rfl rfl ?_
      refine G_iconst (v := 3) C 28 dX11_text_27 rfl rfl ?_
      refine G_icmp_ge C 101 31 dX11_text_28 rfl rfl (fun c => absurd c (by decide)) (fun _ => ?_)
      refine G_iload_n (i := 1) C 32 dX11_text_31 rfl rfl rfl ?_
      refine G_if_eq C 101 35 dX11_text_32 rfl rfl (fun _ => ?_) (fun c => absurd c (by decide))
      refine G_iload_n (i := 1) C 102 dX11_text_101 rfl rfl rfl ?_
      refine G_if_eq C 122 105 dX11_text_102 rfl rfl (fun _ => ?_) (fun c => absurd c (by decide))
      refine G_aload_n (i := 0) C 123 dX11_text_122 rfl rfl rfl ?_
      refine X11_28g C 126 dX11_text_123 rfl ?_
      refine G_iconst (v := 4) C 127 dX11_text_126 rfl rfl ?_
      refine G_aload_n (i := 0) C 128 dX11_text_127 rfl rfl rfl ?_
      refine X11_86g C 131 dX11_text_128 rfl (fun x128 ex128 => ?_)
      have Sx128 : x128 = nI t := ex128.trans ((H_2.2.1 9 (by decide)).trans ht)
      refine G_imul C 132 dX11_text_131 rfl (fun x131 ex131 => ?_)
      have Nx131 : x131 = nI (4 * t) := g_mulN ex131 rfl Sx128
      refine G_iconst (v := 3) C 133 dX11_text_132 rfl rfl ?_
      refine G_iadd C 134 dX11_text_133 rfl (fun x133 ex133 => ?_)
      have Nx133 : x133 = nI ((4 * t) + 3) := g_addN ex133 Nx131 rfl
      refine G_aload_n (i := 0) C 135 dX11_text_134 rfl rfl rfl ?_
      refine X11_115g C 138 dX11_text_135 rfl (fun x135 ex135 => ?_)
      refine G_iast (n := 24) C 139 (by decide) (fun σ => eMk (by decide) _ _ σ) (((4 * t) + 3)) Nx133 (by omega) (by decide) (Nat.le_refl _) dX11_text_138 rfl (fun s138 es138 => ?_)
      have H_3 : t_H t s s138 := t_H.tr H_2 (t_H.st (by decide) es138)
      have Z_2 : s138 0 19 = nI (t_pl (s 5) e 0) := by rw [es138, g_up_n (by decide)]; exact Z_1
      refine G_aload_n (i := 0) C 140 dX11_text_139 rfl rfl rfl ?_
      refine G_iconst (v := 0) C 141 dX11_text_140 rfl rfl ?_
      refine X11_67p C 144 dX11_text_141 rfl (fun s141 es141 => ?_)
      have Z_3 : s141 0 19 = nI (t_pl (s 5) e 0) := by rw [es141, g_up_sj, if_neg (by decide)]; exact Z_2
      refine G_iload_n (i := 1) C 145 dX11_text_144 rfl rfl rfl ?_
      refine G_if_ne C 156 148 dX11_text_145 rfl rfl (fun c => absurd c (by decide)) (fun _ => ?_)
      refine G_bipush (v := (-100)) C 150 dX11_text_148 rfl rfl ?_
      refine G_aload_n (i := 0) C 151 dX11_text_150 rfl rfl rfl ?_
      refine X11_102g C 154 dX11_text_151 rfl (fun x151 ex151 => ?_)
      refine G_isub C 155 dX11_text_154 rfl (fun x154 ex154 => ?_)
      exact G_iret C dX11_text_155 (hQ _ _ (Or.inr ⟨by omega, t_H.J H_3 (Or.inl rfl) es141, by rw [es141, g_up_sj, if_pos rfl], Or.inr ⟨hD.1, by rw [hD.2, ex154, ex151, Z_3], by rw [es141, g_up_sj, if_neg (by decide)]; exact (H_3.2.1 9 (by decide)).trans ht⟩⟩))
    ·
      have hk3_0 := hk_0.symm.trans (ex40.symm.trans c44)
      refine G_aload_n (i := 0) C 48 dX11_text_47 rfl rfl rfl ?_
      refine X11_108g C 51 dX11_text_48 rfl (fun x48 ex48 => ?_)
      refine G_iload_n (i := 2) C 52 dX11_text_51 rfl rfl rfl ?_
      refine G_icmp_ne C 59 55 dX11_text_52 rfl rfl (fun c52 => ?_) (fun c52 => ?_)
      ·
        have hno : ¬ t_c (s 5) e 0 = 20 + 0 := t_k3v hV_0 (fun z => c52 (ex48.trans z)) rfl (by decide)
        have hD : ¬ t_ok (t_L (s 5) e 0) ∧ t_flt (t_L (s 5) e 0) = (t_pl (s 5) e 0) := ⟨(t_f0  (t_part_no (Nat.zero_le e) hno)).1, (t_f0  (t_part_no (Nat.zero_le e) hno)).2.trans (t_hp_L (Nat.zero_le e))⟩
        have hZ0 : s36 0 19 = nI (t_pl (s 5) e 0) := hb_0
        refine G_iconst (v := 0) C 60 dX11_text_59 rfl rfl ?_
        refine G_istore_n (i := 1) (L' := [some (.ref (e_ad E 0)), some (.int 0), some (.int 0)]) C 61 dX11_text_60 rfl rfl (Nat.le_of_ble_eq_true rfl) rfl rfl ?_
        refine G_aload_n (i := 0) C 62 dX11_text_61 rfl rfl rfl ?_
        refine X11_28g C 65 dX11_text_62 rfl ?_
        refine G_iconst (v := 4) C 66 dX11_text_65 rfl rfl ?_
        refine G_aload_n (i := 0) C 67 dX11_text_66 rfl rfl rfl ?_
        refine X11_86g C 70 dX11_text_67 rfl (fun x67 ex67 => ?_)
        have Sx67 : x67 = nI t := ex67.trans ((H_1.2.1 9 (by decide)).trans ht)
        refine G_imul C 71 dX11_text_70 rfl (fun x70 ex70 => ?_)
        have Nx70 : x70 = nI (4 * t) := g_mulN ex70 rfl Sx67
        refine G_iload_n (i := 2) C 72 dX11_text_71 rfl rfl rfl ?_
        refine G_iadd C 73 dX11_text_72 rfl (fun x72 ex72 => ?_)
        have Nx72 : x72 = nI ((4 * t) + 0) := g_addN ex72 Nx70 rfl
        refine G_aload_n (i := 0) C 74 dX11_text_73 rfl rfl rfl ?_
        refine X11_115g C 77 dX11_text_74 rfl (fun x74 ex74 => ?_)
        refine G_iast (n := 24) C 78 (by decide) (fun σ => eMk (by decide) _ _ σ) (((4 * t) + 0)) Nx72 (by omega) (by decide) (Nat.le_refl _) dX11_text_77 rfl (fun s77 es77 => ?_)
        have H_2 : t_H t s s77 := t_H.tr H_1 (t_H.st (by decide) es77)
        have Z_1 : s77 0 19 = nI (t_pl (s 5) e 0) := by rw [es77, g_up_n (by decide)]; exact hZ0
        refine G_iload_n (i := 1) C 79 dX11_text_78 rfl rfl rfl ?_
        refine G_if_eq C 93 82 dX11_text_79 rfl rfl (fun _ => ?_) (fun c => absurd c (by decide))
        refine G_iconst (v := 0) C 94 dX11_text_93 rfl rfl ?_
        refine G_istore_n (i := 1) (L' := [some (.ref (e_ad E 0)), some (.int 0), some (.int 0)]) C 95 dX11_text_94 rfl rfl (Nat.le_of_ble_eq_true rfl) rfl rfl ?_
        refine G_iinc (w := 1) C 98 dX11_text_95 rfl rfl rfl rfl (fun x95 ex95 => ?_)
        obtain rfl : x95 = 1 := ex95.trans (by decide)
        show GW SM E _ 98 [some (.ref (e_ad E 0)), some (.int 0), some (.int 1)] [] s77
        refine G_goto C 26 dX11_text_98 rfl ?_
        refine G_iload_n (i := 2) C 27 dX11_text_26 rfl rfl rfl ?_
        refine G_iconst (v := 3) C 28 dX11_text_27 rfl rfl ?_
        refine G_icmp_ge C 101 31 dX11_text_28 rfl rfl (fun c => absurd c (by decide)) (fun _ => ?_)
        refine G_iload_n (i := 1) C 32 dX11_text_31 rfl rfl rfl ?_
        refine G_if_eq C 101 35 dX11_text_32 rfl rfl (fun _ => ?_) (fun c => absurd c (by decide))
        refine G_iload_n (i := 1) C 102 dX11_text_101 rfl rfl rfl ?_
        refine G_if_eq C 122 105 dX11_text_102 rfl rfl (fun _ => ?_) (fun c => absurd c (by decide))
        refine G_aload_n (i := 0) C 123 dX11_text_122 rfl rfl rfl ?_
        refine X11_28g C 126 dX11_text_123 rfl ?_
        refine G_iconst (v := 4) C 127 dX11_text_126 rfl rfl ?_
        refine G_aload_n (i := 0) C 128 dX11_text_127 rfl rfl rfl ?_
        refine X11_86g C 131 dX11_text_128 rfl (fun x128 ex128 => ?_)
        have Sx128 : x128 = nI t := ex128.trans ((H_2.2.1 9 (by decide)).trans ht)
        refine G_imul C 132 dX11_text_131 rfl (fun x131 ex131 => ?_)
        have Nx131 : x131 = nI (4 * t) := g_mulN ex131 rfl Sx128
        refine G_iconst (v := 3) C 133 dX11_text_132 rfl rfl ?_
        refine G_iadd C 134 dX11_text_133 rfl (fun x133 ex133 => ?_)
        have Nx133 : x133 = nI ((4 * t) + 3) := g_addN ex133 Nx131 rfl
        refine G_aload_n (i := 0) C 135 dX11_text_134 rfl rfl rfl ?_
        refine X11_115g C 138 dX11_text_135 rfl (fun x135 ex135 => ?_)
        refine G_iast (n := 24) C 139 (by decide) (fun σ => eMk (by decide) _ _ σ) (((4 * t) + 3)) Nx133 (by omega) (by decide) (Nat.le_refl _) dX11_text_138 rfl (fun s138 es138 => ?_)
        have H_3 : t_H t s s138 := t_H.tr H_2 (t_H.st (by decide) es138)
        have Z_2 : s138 0 19 = nI (t_pl (s 5) e 0) := by rw [es138, g_up_n (by decide)]; exact Z_1
        refine G_aload_n (i := 0) C 140 dX11_text_139 rfl rfl rfl ?_
        refine G_iconst (v := 0) C 141 dX11_text_140 rfl rfl ?_
        refine X11_67p C 144 dX11_text_141 rfl (fun s141 es141 => ?_)
        have Z_3 : s141 0 19 = nI (t_pl (s 5) e 0) := by rw [es141, g_up_sj, if_neg (by decide)]; exact Z_2
        refine G_iload_n (i := 1) C 145 dX11_text_144 rfl rfl rfl ?_
        refine G_if_ne C 156 148 dX11_text_145 rfl rfl (fun c => absurd c (by decide)) (fun _ => ?_)
        refine G_bipush (v := (-100)) C 150 dX11_text_148 rfl rfl ?_
        refine G_aload_n (i := 0) C 151 dX11_text_150 rfl rfl rfl ?_
        refine X11_102g C 154 dX11_text_151 rfl (fun x151 ex151 => ?_)
        refine G_isub C 155 dX11_text_154 rfl (fun x154 ex154 => ?_)
        exact G_iret C dX11_text_155 (hQ _ _ (Or.inr ⟨by omega, t_H.J H_3 (Or.inl rfl) es141, by rw [es141, g_up_sj, if_pos rfl], Or.inr ⟨hD.1, by rw [hD.2, ex154, ex151, Z_3], by rw [es141, g_up_sj, if_neg (by decide)]; exact (H_3.2.1 9 (by decide)).trans ht⟩⟩))
      ·
        have hy_0 : t_c (s 5) e 0 = 20 + 0 := t_k3 (t_c_ok (s 5) e 0) hk3_0 hV_0 (ex48.symm.trans c52) rfl (by decide)
        have hn0_0 := t_n_lt (Nat.zero_le e) (by rw [hy_0]; exact (by decide))
        have hbb_0 : ([] : List Nat).length ≤ (t_n (s 5) e 0) := Nat.le_trans hb0 (Nat.le_of_lt hn0_0.1)
        refine G_iconst (v := 1) C 56 dX11_text_55 rfl rfl ?_
        refine G_goto C 60 dX11_text_56 rfl ?_
        refine G_istore_n (i := 1) (L' := [some (.ref (e_ad E 0)), some (.int 1), some (.int 0)]) C 61 dX11_text_60 rfl rfl (Nat.le_of_ble_eq_true rfl) rfl rfl ?_
        refine G_aload_n (i := 0) C 62 dX11_text_61 rfl rfl rfl ?_
        refine X11_28g C 65 dX11_text_62 rfl ?_
        refine G_iconst (v := 4) C 66 dX11_text_65 rfl rfl ?_
        refine G_aload_n (i := 0) C 67 dX11_text_66 rfl rfl rfl ?_
        refine X11_86g C 70 dX11_text_67 rfl (fun x67 ex67 => ?_)
        have Sx67 : x67 = nI t := ex67.trans ((H_1.2.1 9 (by decide)).trans ht)
        refine G_imul C 71 dX11_text_70 rfl (fun x70 ex70 => ?_)
        have Nx70 : x70 = nI (4 * t) := g_mulN ex70 rfl Sx67
        refine G_iload_n (i := 2) C 72 dX11_text_71 rfl rfl rfl ?_
        refine G_iadd C 73 dX11_text_72 rfl (fun x72 ex72 => ?_)
        have Nx72 : x72 = nI ((4 * t) + 0) := g_addN ex72 Nx70 rfl
        refine G_aload_n (i := 0) C 74 dX11_text_73 rfl rfl rfl ?_
        refine X11_115g C 77 dX11_text_74 rfl (fun x74 ex74 => ?_)
        refine G_iast (n := 24) C 78 (by decide) (fun σ => eMk (by decide) _ _ σ) (((4 * t) + 0)) Nx72 (by omega) (by decide) (Nat.le_refl _) dX11_text_77 rfl (fun s77 es77 => ?_)
        have H_2 : t_H t s s77 := t_H.tr H_1 (t_H.st (by decide) es77)
        have Q_2 : t_P t (([] : List Nat) ++ [([] : List Nat).length]) ([] : List Nat) s77 := t_P.st Q_1 rfl (ex74.trans Q_1.1) es77
        have A_1 : s77 0 18 = nI (t_n (s 5) e 0) := by rw [es77, g_up_n (by decide)]; exact hn_0
        refine G_iload_n (i := 1) C 79 dX11_text_78 rfl rfl rfl ?_
        refine G_if_eq C 93 82 dX11_text_79 rfl rfl (fun c => absurd c (by decide)) (fun _ => ?_)
        refine G_aload_n (i := 0) C 83 dX11_text_82 rfl rfl rfl ?_
        have hd5_0 : s77 5 = s 5 := H_2.1 5 (by decide) (by decide) (by decide) (by decide)
        refine G_calli 86 (G_runV C Kc_X11_eRead KV_X11_150 (by omega) (by decide) (eM _ _ _) rfl (c_X11_eRead 0 s77 t ([] : List Nat).length (t_n (s 5) e 0) e A_1 ((H_2.2.1 6 (by decide)).trans he) hn0_0.2 he160 (by omega) ((H_2.2.1 9 (by decide)).trans ht) Q_2.1 hbb_0) rfl rfl rfl (Nat.le_of_ble_eq_true rfl) rfl dX11_text_83) rfl (fun x83 s83 h83 => ?_)
        have H_3 : t_H t s s83 := t_H.tr H_2 (t_G.H h83.1)
        rw [hd5_0] at h83
        refine G_if_eq C 93 89 dX11_text_86 rfl rfl (fun c86 => ?_) (fun c86 => ?_)
        ·
          obtain ⟨cq, q, T, o, heq, hq⟩ := (h83.2.resolve_left (fun y => absurd (y.1.symm.trans c86) (by decide))).2
          have hD : ¬ t_ok (t_L (s 5) e 0) ∧ t_flt (t_L (s 5) e 0) = q := ⟨(t_f0  (t_part_ok (Nat.zero_le e) hy_0 heq)).1, (t_f0  (t_part_ok (Nat.zero_le e) hy_0 heq)).2.trans (rfl)⟩
          have hZ0 : s83 0 19 = nI q := hq
          clear h83
          refine G_iconst (v := 0) C 94 dX11_text_93 rfl rfl ?_
          refine G_istore_n (i := 1) (L' := [some (.ref (e_ad E 0)), some (.int 0), some (.int 0)]) C 95 dX11_text_94 rfl rfl (Nat.le_of_ble_eq_true rfl) rfl rfl ?_
          refine G_iinc (w := 1) C 98 dX11_text_95 rfl rfl rfl rfl (fun x95 ex95 => ?_)
          obtain rfl : x95 = 1 := ex95.trans (by decide)
          show GW SM E _ 98 [some (.ref (e_ad E 0)), some (.int 0), some (.int 1)] [] s83
          refine G_goto C 26 dX11_text_98 rfl ?_
          refine G_iload_n (i := 2) C 27 dX11_text_26 rfl rfl rfl ?_
          refine G_iconst (v := 3) C 28 dX11_text_27 rfl rfl ?_
          refine G_icmp_ge C 101 31 dX11_text_28 rfl rfl (fun c => absurd c (by decide)) (fun _ => ?_)
          refine G_iload_n (i := 1) C 32 dX11_text_31 rfl rfl rfl ?_
          refine G_if_eq C 101 35 dX11_text_32 rfl rfl (fun _ => ?_) (fun c => absurd c (by decide))
          refine G_iload_n (i := 1) C 102 dX11_text_101 rfl rfl rfl ?_
          refine G_if_eq C 122 105 dX11_text_102 rfl rfl (fun _ => ?_) (fun c => absurd c (by decide))
          refine G_aload_n (i := 0) C 123 dX11_text_122 rfl rfl rfl ?_
          refine X11_28g C 126 dX11_text_123 rfl ?_
          refine G_iconst (v := 4) C 127 dX11_text_126 rfl rfl ?_
          refine G_aload_n (i := 0) C 128 dX11_text_127 rfl rfl rfl ?_
          refine X11_86g C 131 dX11_text_128 rfl (fun x128 ex128 => ?_)
          have Sx128 : x128 = nI t := ex128.trans ((H_3.2.1 9 (by decide)).trans ht)
          refine G_imul C 132 dX11_text_131 rfl (fun x131 ex131 => ?_)
          have Nx131 : x131 = nI (4 * t) := g_mulN ex131 rfl Sx128
          refine G_iconst (v := 3) C 133 dX11_text_132 rfl rfl ?_
          refine G_iadd C 134 dX11_text_133 rfl (fun x133 ex133 => ?_)
          have Nx133 : x133 = nI ((4 * t) + 3) := g_addN ex133 Nx131 rfl
          refine G_aload_n (i := 0) C 135 dX11_text_134 rfl rfl rfl ?_
          refine X11_115g C 138 dX11_text_135 rfl (fun x135 ex135 => ?_)
          refine G_iast (n := 24) C 139 (by decide) (fun σ => eMk (by decide) _ _ σ) (((4 * t) + 3)) Nx133 (by omega) (by decide) (Nat.le_refl _) dX11_text_138 rfl (fun s138 es138 => ?_)
          have H_4 : t_H t s s138 := t_H.tr H_3 (t_H.st (by decide) es138)
          have Z_1 : s138 0 19 = nI q := by rw [es138, g_up_n (by decide)]; exact hZ0
          refine G_aload_n (i := 0) C 140 dX11_text_139 rfl rfl rfl ?_
          refine G_iconst (v := 0) C 141 dX11_text_140 rfl rfl ?_
          refine X11_67p C 144 dX11_text_141 rfl (fun s141 es141 => ?_)
          have Z_2 : s141 0 19 = nI q := by rw [es141, g_up_sj, if_neg (by decide)]; exact Z_1
          refine G_iload_n (i := 1) C 145 dX11_text_144 rfl rfl rfl ?_
          refine G_if_ne C 156 148 dX11_text_145 rfl rfl (fun c => absurd c (by decide)) (fun _ => ?_)
          refine G_bipush (v := (-100)) C 150 dX11_text_148 rfl rfl ?_
          refine G_aload_n (i := 0) C 151 dX11_text_150 rfl rfl rfl ?_
          refine X11_102g C 154 dX11_text_151 rfl (fun x151 ex151 => ?_)
          refine G_isub C 155 dX11_text_154 rfl (fun x154 ex154 => ?_)
          exact G_iret C dX11_text_155 (hQ _ _ (Or.inr ⟨by omega, t_H.J H_4 (Or.inl rfl) es141, by rw [es141, g_up_sj, if_pos rfl], Or.inr ⟨hD.1, by rw [hD.2, ex154, ex151, Z_2], by rw [es141, g_up_sj, if_neg (by decide)]; exact (H_4.2.1 9 (by decide)).trans ht⟩⟩))
        ·
          obtain ⟨p1, csa, heq_0, hpa_0, hpb_0, hpc_0, hS_0, hl_0⟩ := (h83.2.resolve_right (fun y => c86 y.1)).2
          have hE1 : t_r1 (t_L (s 5) e 0) = (true, t_L (s 5) e p1, csa) := t_part_ok (Nat.zero_le e) hy_0 heq_0
          have hQn_0 : t_P t (([] : List Nat) ++ [([] : List Nat).length]) (([] : List Nat) ++ csa) s83 := t_P.G Q_2 h83.1 hS_0
          have hbn_0 : (([] : List Nat) ++ csa).length ≤ p1 := by rw [List.length_append]; exact hl_0
          clear h83
          refine G_iconst (v := 1) C 90 dX11_text_89 rfl rfl ?_
          refine G_goto C 94 dX11_text_90 rfl ?_
          refine G_istore_n (i := 1) (L' := [some (.ref (e_ad E 0)), some (.int 1), some (.int 0)]) C 95 dX11_text_94 rfl rfl (Nat.le_of_ble_eq_true rfl) rfl rfl ?_
          refine G_iinc (w := 1) C 98 dX11_text_95 rfl rfl rfl rfl (fun x95 ex95 => ?_)
          obtain rfl : x95 = 1 := ex95.trans (by decide)
          show GW SM E _ 98 [some (.ref (e_ad E 0)), some (.int 1), some (.int 1)] [] s83
          refine G_goto C 26 dX11_text_98 rfl ?_
          refine G_iload_n (i := 2) C 27 dX11_text_26 rfl rfl rfl ?_
          refine G_iconst (v := 3) C 28 dX11_text_27 rfl rfl ?_
          refine G_icmp_ge C 101 31 dX11_text_28 rfl rfl (fun c => absurd c (by decide)) (fun _ => ?_)
          refine G_iload_n (i := 1) C 32 dX11_text_31 rfl rfl rfl ?_
          refine G_if_eq C 101 35 dX11_text_32 rfl rfl (fun c => absurd c (by decide)) (fun _ => ?_)
          refine G_aload_n (i := 0) C 36 dX11_text_35 rfl rfl rfl ?_
          have hc5_1 : s83 5 = s 5 := H_3.1 5 (by decide) (by decide) (by decide) (by decide)
          refine G_callv 39 (G_runV C Kc_X11_next KV_X11_137 (by omega) (by decide) (eM _ _ _) rfl (c_X11_next 0 s83 p1 e hpc_0 ((H_3.2.1 6 (by decide)).trans he) hpb_0 he160) rfl rfl rfl (Nat.le_of_ble_eq_true rfl) rfl dX11_text_36) rfl (fun s36_1 h36_1 => ?_)
          have H_4 : t_H t s s36_1 := t_H.tr H_3 (t_N.H h36_1.1)
          have Q_3 : t_P t (([] : List Nat) ++ [([] : List Nat).length]) (([] : List Nat) ++ csa) s36_1 := t_P.N hQn_0 h36_1.1
          rw [hc5_1] at h36_1
          obtain ⟨hN_1, hb_1, hn_1, hk_1, hV_1⟩ := h36_1
          refine G_aload_n (i := 0) C 40 dX11_text_39 rfl rfl rfl ?_
          refine X11_105g C 43 dX11_text_40 rfl (fun x40_1 ex40_1 => ?_)
          refine G_iconst (v := 3) C 44 dX11_text_43 rfl rfl ?_
          refine G_icmp_ne C 59 47 dX11_text_44 rfl rfl (fun c44_1 => ?_) (fun c44_1 => ?_)
          ·
            have hno : ¬ t_c (s 5) e p1 = 20 + 1 := t_k3n (fun z => c44_1 (ex40_1.trans (hk_1.trans z))) (by decide)
            have hD : ¬ t_ok (t_L (s 5) e 0) ∧ t_flt (t_L (s 5) e 0) = (t_pl (s 5) e p1) := ⟨(t_f1 hE1 (t_part_no hpb_0 hno)).1, (t_f1 hE1 (t_part_no hpb_0 hno)).2.trans (t_hp_L hpb_0)⟩
            have hZ0 : s36_1 0 19 = nI (t_pl (s 5) e p1) := hb_1
            refine G_iconst (v := 0) C 60 dX11_text_59 rfl rfl ?_
            refine G_istore_n (i := 1) (L' := [some (.ref (e_ad E 0)), some (.int 0), some (.int 1)]) C 61 dX11_text_60 rfl rfl (Nat.le_of_ble_eq_true rfl) rfl rfl ?_
            refine G_aload_n (i := 0) C 62 dX11_text_61 rfl rfl rfl ?_
            refine X11_28g C 65 dX11_text_62 rfl ?_
            refine G_iconst (v := 4) C 66 dX11_text_65 rfl rfl ?_
            refine G_aload_n (i := 0) C 67 dX11_text_66 rfl rfl rfl ?_
            refine X11_86g C 70 dX11_text_67 rfl (fun x67_1 ex67_1 => ?_)
            have Sx67_1 : x67_1 = nI t := ex67_1.trans ((H_4.2.1 9 (by decide)).trans ht)
            refine G_imul C 71 dX11_text_70 rfl (fun x70_1 ex70_1 => ?_)
            have Nx70_1 : x70_1 = nI (4 * t) := g_mulN ex70_1 rfl Sx67_1
            refine G_iload_n (i := 2) C 72 dX11_text_71 rfl rfl rfl ?_
            refine G_iadd C 73 dX11_text_72 rfl (fun x72_1 ex72_1 => ?_)
            have Nx72_1 : x72_1 = nI ((4 * t) + 1) := g_addN ex72_1 Nx70_1 rfl
            refine G_aload_n (i := 0) C 74 dX11_text_73 rfl rfl rfl ?_
            refine X11_115g C 77 dX11_text_74 rfl (fun x74_1 ex74_1 => ?_)
            refine G_iast (n := 24) C 78 (by decide) (fun σ => eMk (by decide) _ _ σ) (((4 * t) + 1)) Nx72_1 (by omega) (by decide) (Nat.le_refl _) dX11_text_77 rfl (fun s77_1 es77_1 => ?_)
            have H_5 : t_H t s s77_1 := t_H.tr H_4 (t_H.st (by decide) es77_1)
            have Z_1 : s77_1 0 19 = nI (t_pl (s 5) e p1) := by rw [es77_1, g_up_n (by decide)]; exact hZ0
            refine G_iload_n (i := 1) C 79 dX11_text_78 rfl rfl rfl ?_
            refine G_if_eq C 93 82 dX11_text_79 rfl rfl (fun _ => ?_) (fun c => absurd c (by decide))
            refine G_iconst (v := 0) C 94 dX11_text_93 rfl rfl ?_
            refine G_istore_n (i := 1) (L' := [some (.ref (e_ad E 0)), some (.int 0), some (.int 1)]) C 95 dX11_text_94 rfl rfl (Nat.le_of_ble_eq_true rfl) rfl rfl ?_
            refine G_iinc (w := 1) C 98 dX11_text_95 rfl rfl rfl rfl (fun x95_1 ex95_1 => ?_)
            obtain rfl : x95_1 = 2 := ex95_1.trans (by decide)
            show GW SM E _ 98 [some (.ref (e_ad E 0)), some (.int 0), some (.int 2)] [] s77_1
            refine G_goto C 26 dX11_text_98 rfl ?_
            refine G_iload_n (i := 2) C 27 dX11_text_26 rfl rfl rfl ?_
            refine G_iconst (v := 3) C 28 dX11_text_27 rfl rfl ?_
            refine G_icmp_ge C 101 31 dX11_text_28 rfl rfl (fun c => absurd c (by decide)) (fun _ => ?_)
            refine G_iload_n (i := 1) C 32 dX11_text_31 rfl rfl rfl ?_
            refine G_if_eq C 101 35 dX11_text_32 rfl rfl (fun _ => ?_) (fun c => absurd c (by decide))
            refine G_iload_n (i := 1) C 102 dX11_text_101 rfl rfl rfl ?_
            refine G_if_eq C 122 105 dX11_text_102 rfl rfl (fun _ => ?_) (fun c => absurd c (by decide))
            refine G_aload_n (i := 0) C 123 dX11_text_122 rfl rfl rfl ?_
            refine X11_28g C 126 dX11_text_123 rfl ?_
            refine G_iconst (v := 4) C 127 dX11_text_126 rfl rfl ?_
            refine G_aload_n (i := 0) C 128 dX11_text_127 rfl rfl rfl ?_
            refine X11_86g C 131 dX11_text_128 rfl (fun x128 ex128 => ?_)
            have Sx128 : x128 = nI t := ex128.trans ((H_5.2.1 9 (by decide)).trans ht)
            refine G_imul C 132 dX11_text_131 rfl (fun x131 ex131 => ?_)
            have Nx131 : x131 = nI (4 * t) := g_mulN ex131 rfl Sx128
            refine G_iconst (v := 3) C 133 dX11_text_132 rfl rfl ?_
            refine G_iadd C 134 dX11_text_133 rfl (fun x133 ex133 => ?_)
            have Nx133 : x133 = nI ((4 * t) + 3) := g_addN ex133 Nx131 rfl
            refine G_aload_n (i := 0) C 135 dX11_text_134 rfl rfl rfl ?_
            refine X11_115g C 138 dX11_text_135 rfl (fun x135 ex135 => ?_)
            refine G_iast (n := 24) C 139 (by decide) (fun σ => eMk (by decide) _ _ σ) (((4 * t) + 3)) Nx133 (by omega) (by decide) (Nat.le_refl _) dX11_text_138 rfl (fun s138 es138 => ?_)
            have H_6 : t_H t s s138 := t_H.tr H_5 (t_H.st (by decide) es138)
            have Z_2 : s138 0 19 = nI (t_pl (s 5) e p1) := by rw [es138, g_up_n (by decide)]; exact Z_1
            refine G_aload_n (i := 0) C 140 dX11_text_139 rfl rfl rfl ?_
            refine G_iconst (v := 0) C 141 dX11_text_140 rfl rfl ?_
            refine X11_67p C 144 dX11_text_141 rfl (fun s141 es141 => ?_)
            have Z_3 : s141 0 19 = nI (t_pl (s 5) e p1) := by rw [es141, g_up_sj, if_neg (by decide)]; exact Z_2
            refine G_iload_n (i := 1) C 145 dX11_text_144 rfl rfl rfl ?_
            refine G_if_ne C 156 148 dX11_text_145 rfl rfl (fun c => absurd c (by decide)) (fun _ => ?_)
            refine G_bipush (v := (-100)) C 150 dX11_text_148 rfl rfl ?_
            refine G_aload_n (i := 0) C 151 dX11_text_150 rfl rfl rfl ?_
            refine X11_102g C 154 dX11_text_151 rfl (fun x151 ex151 => ?_)
            refine G_isub C 155 dX11_text_154 rfl (fun x154 ex154 => ?_)
            exact G_iret C dX11_text_155 (hQ _ _ (Or.inr ⟨by omega, t_H.J H_6 (Or.inl rfl) es141, by rw [es141, g_up_sj, if_pos rfl], Or.inr ⟨hD.1, by rw [hD.2, ex154, ex151, Z_3], by rw [es141, g_up_sj, if_neg (by decide)]; exact (H_6.2.1 9 (by decide)).trans ht⟩⟩))
          ·
            have hk3_1 := hk_1.symm.trans (ex40_1.symm.trans c44_1)
            refine G_aload_n (i := 0) C 48 dX11_text_47 rfl rfl rfl ?_
            refine X11_108g C 51 dX11_text_48 rfl (fun x48_1 ex48_1 => ?_)
            refine G_iload_n (i := 2) C 52 dX11_text_51 rfl rfl rfl ?_
            refine G_icmp_ne C 59 55 dX11_text_52 rfl rfl (fun c52_1 => ?_) (fun c52_1 => ?_)
            ·
              have hno : ¬ t_c (s 5) e p1 = 20 + 1 := t_k3v hV_1 (fun z => c52_1 (ex48_1.trans z)) rfl (by decide)
              have hD : ¬ t_ok (t_L (s 5) e 0) ∧ t_flt (t_L (s 5) e 0) = (t_pl (s 5) e p1) := ⟨(t_f1 hE1 (t_part_no hpb_0 hno)).1, (t_f1 hE1 (t_part_no hpb_0 hno)).2.trans (t_hp_L hpb_0)⟩
              have hZ0 : s36_1 0 19 = nI (t_pl (s 5) e p1) := hb_1
              refine G_iconst (v := 0) C 60 dX11_text_59 rfl rfl ?_
              refine G_istore_n (i := 1) (L' := [some (.ref (e_ad E 0)), some (.int 0), some (.int 1)]) C 61 dX11_text_60 rfl rfl (Nat.le_of_ble_eq_true rfl) rfl rfl ?_
              refine G_aload_n (i := 0) C 62 dX11_text_61 rfl rfl rfl ?_
              refine X11_28g C 65 dX11_text_62 rfl ?_
              refine G_iconst (v := 4) C 66 dX11_text_65 rfl rfl ?_
              refine G_aload_n (i := 0) C 67 dX11_text_66 rfl rfl rfl ?_
              refine X11_86g C 70 dX11_text_67 rfl (fun x67_1 ex67_1 => ?_)
              have Sx67_1 : x67_1 = nI t := ex67_1.trans ((H_4.2.1 9 (by decide)).trans ht)
              refine G_imul C 71 dX11_text_70 rfl (fun x70_1 ex70_1 => ?_)
              have Nx70_1 : x70_1 = nI (4 * t) := g_mulN ex70_1 rfl Sx67_1
              refine G_iload_n (i := 2) C 72 dX11_text_71 rfl rfl rfl ?_
              refine G_iadd C 73 dX11_text_72 rfl (fun x72_1 ex72_1 => ?_)
              have Nx72_1 : x72_1 = nI ((4 * t) + 1) := g_addN ex72_1 Nx70_1 rfl
              refine G_aload_n (i := 0) C 74 dX11_text_73 rfl rfl rfl ?_
              refine X11_115g C 77 dX11_text_74 rfl (fun x74_1 ex74_1 => ?_)
              refine G_iast (n := 24) C 78 (by decide) (fun σ => eMk (by decide) _ _ σ) (((4 * t) + 1)) Nx72_1 (by omega) (by decide) (Nat.le_refl _) dX11_text_77 rfl (fun s77_1 es77_1 => ?_)
              have H_5 : t_H t s s77_1 := t_H.tr H_4 (t_H.st (by decide) es77_1)
              have Z_1 : s77_1 0 19 = nI (t_pl (s 5) e p1) := by rw [es77_1, g_up_n (by decide)]; exact hZ0
              refine G_iload_n (i := 1) C 79 dX11_text_78 rfl rfl rfl ?_
              refine G_if_eq C 93 82 dX11_text_79 rfl rfl (fun _ => ?_) (fun c => absurd c (by decide))
              refine G_iconst (v := 0) C 94 dX11_text_93 rfl rfl ?_
              refine G_istore_n (i := 1) (L' := [some (.ref (e_ad E 0)), some (.int 0), some (.int 1)]) C 95 dX11_text_94 rfl rfl (Nat.le_of_ble_eq_true rfl) rfl rfl ?_
              refine G_iinc (w := 1) C 98 dX11_text_95 rfl rfl rfl rfl (fun x95_1 ex95_1 => ?_)
              obtain rfl : x95_1 = 2 := ex95_1.trans (by decide)
              show GW SM E _ 98 [some (.ref (e_ad E 0)), some (.int 0), some (.int 2)] [] s77_1
              refine G_goto C 26 dX11_text_98 rfl ?_
              refine G_iload_n (i := 2) C 27 dX11_text_26 rfl rfl rfl ?_
              refine G_iconst (v := 3) C 28 dX11_text_27 rfl rfl ?_
              refine G_icmp_ge C 101 31 dX11_text_28 rfl rfl (fun c => absurd c (by decide)) (fun _ => ?_)
              refine G_iload_n (i := 1) C 32 dX11_text_31 rfl rfl rfl ?_
              refine G_if_eq C 101 35 dX11_text_32 rfl rfl (fun _ => ?_) (fun c => absurd c (by decide))
              refine G_iload_n (i := 1) C 102 dX11_text_101 rfl rfl rfl ?_
              refine G_if_eq C 122 105 dX11_text_102 rfl rfl (fun _ => ?_) (fun c => absurd c (by decide))
              refine G_aload_n (i := 0) C 123 dX11_text_122 rfl rfl rfl ?_
              refine X11_28g C 126 dX11_text_123 rfl ?_
              refine G_iconst (v := 4) C 127 dX11_text_126 rfl rfl ?_
              refine G_aload_n (i := 0) C 128 dX11_text_127 rfl rfl rfl ?_
              refine X11_86g C 131 dX11_text_128 rfl (fun x128 ex128 => ?_)
              have Sx128 : x128 = nI t := ex128.trans ((H_5.2.1 9 (by decide)).trans ht)
              refine G_imul C 132 dX11_text_131 rfl (fun x131 ex131 => ?_)
              have Nx131 : x131 = nI (4 * t) := g_mulN ex131 rfl Sx128
              refine G_iconst (v := 3) C 133 dX11_text_132 rfl rfl ?_
              refine G_iadd C 134 dX11_text_133 rfl (fun x133 ex133 => ?_)
              have Nx133 : x133 = nI ((4 * t) + 3) := g_addN ex133 Nx131 rfl
              refine G_aload_n (i := 0) C 135 dX11_text_134 rfl rfl rfl ?_
              refine X11_115g C 138 dX11_text_135 rfl (fun x135 ex135 => ?_)
              refine G_iast (n := 24) C 139 (by decide) (fun σ => eMk (by decide) _ _ σ) (((4 * t) + 3)) Nx133 (by omega) (by decide) (Nat.le_refl _) dX11_text_138 rfl (fun s138 es138 => ?_)
              have H_6 : t_H t s s138 := t_H.tr H_5 (t_H.st (by decide) es138)
              have Z_2 : s138 0 19 = nI (t_pl (s 5) e p1) := by rw [es138, g_up_n (by decide)]; exact Z_1
              refine G_aload_n (i := 0) C 140 dX11_text_139 rfl rfl rfl ?_
              refine G_iconst (v := 0) C 141 dX11_text_140 rfl rfl ?_
              refine X11_67p C 144 dX11_text_141 rfl (fun s141 es141 => ?_)
              have Z_3 : s141 0 19 = nI (t_pl (s 5) e p1) := by rw [es141, g_up_sj, if_neg (by decide)]; exact Z_2
              refine G_iload_n (i := 1) C 145 dX11_text_144 rfl rfl rfl ?_
              refine G_if_ne C 156 148 dX11_text_145 rfl rfl (fun c => absurd c (by decide)) (fun _ => ?_)
              refine G_bipush (v := (-100)) C 150 dX11_text_148 rfl rfl ?_
              refine G_aload_n (i := 0) C 151 dX11_text_150 rfl rfl rfl ?_
              refine X11_102g C 154 dX11_text_151 rfl (fun x151 ex151 => ?_)
              refine G_isub C 155 dX11_text_154 rfl (fun x154 ex154 => ?_)
              exact G_iret C dX11_text_155 (hQ _ _ (Or.inr ⟨by omega, t_H.J H_6 (Or.inl rfl) es141, by rw [es141, g_up_sj, if_pos rfl], Or.inr ⟨hD.1, by rw [hD.2, ex154, ex151, Z_3], by rw [es141, g_up_sj, if_neg (by decide)]; exact (H_6.2.1 9 (by decide)).trans ht⟩⟩))
            ·
              have hy_1 : t_c (s 5) e p1 = 20 + 1 := t_k3 (t_c_ok (s 5) e p1) hk3_1 hV_1 (ex48_1.symm.trans c52_1) rfl (by decide)
              have hn0_1 := t_n_lt hpb_0 (by rw [hy_1]; exact (by decide))
              have hbb_1 : (([] : List Nat) ++ csa).length ≤ (t_n (s 5) e p1) := Nat.le_trans hbn_0 (Nat.le_of_lt hn0_1.1)
              refine G_iconst (v := 1) C 56 dX11_text_55 rfl rfl ?_
              refine G_goto C 60 dX11_text_56 rfl ?_
              refine G_istore_n (i := 1) (L' := [some (.ref (e_ad E 0)), some (.int 1), some (.int 1)]) C 61 dX11_text_60 rfl rfl (Nat.le_of_ble_eq_true rfl) rfl rfl ?_
              refine G_aload_n (i := 0) C 62 dX11_text_61 rfl rfl rfl ?_
              refine X11_28g C 65 dX11_text_62 rfl ?_
              refine G_iconst (v := 4) C 66 dX11_text_65 rfl rfl ?_
              refine G_aload_n (i := 0) C 67 dX11_text_66 rfl rfl rfl ?_
              refine X11_86g C 70 dX11_text_67 rfl (fun x67_1 ex67_1 => ?_)
              have Sx67_1 : x67_1 = nI t := ex67_1.trans ((H_4.2.1 9 (by decide)).trans ht)
              refine G_imul C 71 dX11_text_70 rfl (fun x70_1 ex70_1 => ?_)
              have Nx70_1 : x70_1 = nI (4 * t) := g_mulN ex70_1 rfl Sx67_1
              refine G_iload_n (i := 2) C 72 dX11_text_71 rfl rfl rfl ?_
              refine G_iadd C 73 dX11_text_72 rfl (fun x72_1 ex72_1 => ?_)
              have Nx72_1 : x72_1 = nI ((4 * t) + 1) := g_addN ex72_1 Nx70_1 rfl
              refine G_aload_n (i := 0) C 74 dX11_text_73 rfl rfl rfl ?_
              refine X11_115g C 77 dX11_text_74 rfl (fun x74_1 ex74_1 => ?_)
              refine G_iast (n := 24) C 78 (by decide) (fun σ => eMk (by decide) _ _ σ) (((4 * t) + 1)) Nx72_1 (by omega) (by decide) (Nat.le_refl _) dX11_text_77 rfl (fun s77_1 es77_1 => ?_)
              have H_5 : t_H t s s77_1 := t_H.tr H_4 (t_H.st (by decide) es77_1)
              have Q_4 : t_P t ((([] : List Nat) ++ [([] : List Nat).length]) ++ [(([] : List Nat) ++ csa).length]) (([] : List Nat) ++ csa) s77_1 := t_P.st Q_3 rfl (ex74_1.trans Q_3.1) es77_1
              have A_2 : s77_1 0 18 = nI (t_n (s 5) e p1) := by rw [es77_1, g_up_n (by decide)]; exact hn_1
              refine G_iload_n (i := 1) C 79 dX11_text_78 rfl rfl rfl ?_
              refine G_if_eq C 93 82 dX11_text_79 rfl rfl (fun c => absurd c (by decide)) (fun _ => ?_)
              refine G_aload_n (i := 0) C 83 dX11_text_82 rfl rfl rfl ?_
              have hd5_1 : s77_1 5 = s 5 := H_5.1 5 (by decide) (by decide) (by decide) (by decide)
              refine G_calli 86 (G_runV C Kc_X11_eRead KV_X11_150 (by omega) (by decide) (eM _ _ _) rfl (c_X11_eRead 0 s77_1 t (([] : List Nat) ++ csa).length (t_n (s 5) e p1) e A_2 ((H_5.2.1 6 (by decide)).trans he) hn0_1.2 he160 (by omega) ((H_5.2.1 9 (by decide)).trans ht) Q_4.1 hbb_1) rfl rfl rfl (Nat.le_of_ble_eq_true rfl) rfl dX11_text_83) rfl (fun x83_1 s83_1 h83_1 => ?_)
              have H_6 : t_H t s s83_1 := t_H.tr H_5 (t_G.H h83_1.1)
              rw [hd5_1] at h83_1
              refine G_if_eq C 93 89 dX11_text_86 rfl rfl (fun c86_1 => ?_) (fun c86_1 => ?_)
              ·
                obtain ⟨cq, q, T, o, heq, hq⟩ := (h83_1.2.resolve_left (fun y => absurd (y.1.symm.trans c86_1) (by decide))).2
                have hD : ¬ t_ok (t_L (s 5) e 0) ∧ t_flt (t_L (s 5) e 0) = q := ⟨(t_f1 hE1 (t_part_ok hpb_0 hy_1 heq)).1, (t_f1 hE1 (t_part_ok hpb_0 hy_1 heq)).2.trans (rfl)⟩
                have hZ0 : s83_1 0 19 = nI q := hq
                clear h83_1
                refine G_iconst (v := 0) C 94 dX11_text_93 rfl rfl ?_
                refine G_istore_n (i := 1) (L' := [some (.ref (e_ad E 0)), some (.int 0), some (.int 1)]) C 95 dX11_text_94 rfl rfl (Nat.le_of_ble_eq_true rfl) rfl rfl ?_
                refine G_iinc (w := 1) C 98 dX11_text_95 rfl rfl rfl rfl (fun x95_1 ex95_1 => ?_)
                obtain rfl : x95_1 = 2 := ex95_1.trans (by decide)
                show GW SM E _ 98 [some (.ref (e_ad E 0)), some (.int 0), some (.int 2)] [] s83_1
                refine G_goto C 26 dX11_text_98 rfl ?_
                refine G_iload_n (i := 2) C 27 dX11_text_26 rfl rfl rfl ?_
                refine G_iconst (v := 3) C 28 dX11_text_27 rfl rfl ?_
                refine G_icmp_ge C 101 31 dX11_text_28 rfl rfl (fun c => absurd c (by decide)) (fun _ => ?_)
                refine G_iload_n (i := 1) C 32 dX11_text_31 rfl rfl rfl ?_
                refine G_if_eq C 101 35 dX11_text_32 rfl rfl (fun _ => ?_) (fun c => absurd c (by decide))
                refine G_iload_n (i := 1) C 102 dX11_text_101 rfl rfl rfl ?_
                refine G_if_eq C 122 105 dX11_text_102 rfl rfl (fun _ => ?_) (fun c => absurd c (by decide))
                refine G_aload_n (i := 0) C 123 dX11_text_122 rfl rfl rfl ?_
                refine X11_28g C 126 dX11_text_123 rfl ?_
                refine G_iconst (v := 4) C 127 dX11_text_126 rfl rfl ?_
                refine G_aload_n (i := 0) C 128 dX11_text_127 rfl rfl rfl ?_
                refine X11_86g C 131 dX11_text_128 rfl (fun x128 ex128 => ?_)
                have Sx128 : x128 = nI t := ex128.trans ((H_6.2.1 9 (by decide)).trans ht)
                refine G_imul C 132 dX11_text_131 rfl (fun x131 ex131 => ?_)
                have Nx131 : x131 = nI (4 * t) := g_mulN ex131 rfl Sx128
                refine G_iconst (v := 3) C 133 dX11_text_132 rfl rfl ?_
                refine G_iadd C 134 dX11_text_133 rfl (fun x133 ex133 => ?_)
                have Nx133 : x133 = nI ((4 * t) + 3) := g_addN ex133 Nx131 rfl
                refine G_aload_n (i := 0) C 135 dX11_text_134 rfl rfl rfl ?_
                refine X11_115g C 138 dX11_text_135 rfl (fun x135 ex135 => ?_)
                refine G_iast (n := 24) C 139 (by decide) (fun σ => eMk (by decide) _ _ σ) (((4 * t) + 3)) Nx133 (by omega) (by decide) (Nat.le_refl _) dX11_text_138 rfl (fun s138 es138 => ?_)
                have H_7 : t_H t s s138 := t_H.tr H_6 (t_H.st (by decide) es138)
                have Z_1 : s138 0 19 = nI q := by rw [es138, g_up_n (by decide)]; exact hZ0
                refine G_aload_n (i := 0) C 140 dX11_text_139 rfl rfl rfl ?_
                refine G_iconst (v := 0) C 141 dX11_text_140 rfl rfl ?_
                refine X11_67p C 144 dX11_text_141 rfl (fun s141 es141 => ?_)
                have Z_2 : s141 0 19 = nI q := by rw [es141, g_up_sj, if_neg (by decide)]; exact Z_1
                refine G_iload_n (i := 1) C 145 dX11_text_144 rfl rfl rfl ?_
                refine G_if_ne C 156 148 dX11_text_145 rfl rfl (fun c => absurd c (by decide)) (fun _ => ?_)
                refine G_bipush (v := (-100)) C 150 dX11_text_148 rfl rfl ?_
                refine G_aload_n (i := 0) C 151 dX11_text_150 rfl rfl rfl ?_
                refine X11_102g C 154 dX11_text_151 rfl (fun x151 ex151 => ?_)
                refine G_isub C 155 dX11_text_154 rfl (fun x154 ex154 => ?_)
                exact G_iret C dX11_text_155 (hQ _ _ (Or.inr ⟨by omega, t_H.J H_7 (Or.inl rfl) es141, by rw [es141, g_up_sj, if_pos rfl], Or.inr ⟨hD.1, by rw [hD.2, ex154, ex151, Z_2], by rw [es141, g_up_sj, if_neg (by decide)]; exact (H_7.2.1 9 (by decide)).trans ht⟩⟩))
              ·
                obtain ⟨p2, csb, heq_1, hpa_1, hpb_1, hpc_1, hS_1, hl_1⟩ := (h83_1.2.resolve_right (fun y => c86_1 y.1)).2
                have hE2 : t_r2 (t_L (s 5) e 0) = (true, t_L (s 5) e p2, csb) := t_e2 hE1 (t_part_ok hpb_0 hy_1 heq_1)
                have hQn_1 : t_P t ((([] : List Nat) ++ [([] : List Nat).length]) ++ [(([] : List Nat) ++ csa).length]) ((([] : List Nat) ++ csa) ++ csb) s83_1 := t_P.G Q_4 h83_1.1 hS_1
                have hbn_1 : ((([] : List Nat) ++ csa) ++ csb).length ≤ p2 := by rw [List.length_append]; exact hl_1
                clear h83_1
                refine G_iconst (v := 1) C 90 dX11_text_89 rfl rfl ?_
                refine G_goto C 94 dX11_text_90 rfl ?_
                refine G_istore_n (i := 1) (L' := [some (.ref (e_ad E 0)), some (.int 1), some (.int 1)]) C 95 dX11_text_94 rfl rfl (Nat.le_of_ble_eq_true rfl) rfl rfl ?_
                refine G_iinc (w := 1) C 98 dX11_text_95 rfl rfl rfl rfl (fun x95_1 ex95_1 => ?_)
                obtain rfl : x95_1 = 2 := ex95_1.trans (by decide)
                show GW SM E _ 98 [some (.ref (e_ad E 0)), some (.int 1), some (.int 2)] [] s83_1
                refine G_goto C 26 dX11_text_98 rfl ?_
                refine G_iload_n (i := 2) C 27 dX11_text_26 rfl rfl rfl ?_
                refine G_iconst (v := 3) C 28 dX11_text_27 rfl rfl ?_
                refine G_icmp_ge C 101 31 dX11_text_28 rfl rfl (fun c => absurd c (by decide)) (fun _ => ?_)
                refine G_iload_n (i := 1) C 32 dX11_text_31 rfl rfl rfl ?_
                refine G_if_eq C 101 35 dX11_text_32 rfl rfl (fun c => absurd c (by decide)) (fun _ => ?_)
                refine G_aload_n (i := 0) C 36 dX11_text_35 rfl rfl rfl ?_
                have hc5_2 : s83_1 5 = s 5 := H_6.1 5 (by decide) (by decide) (by decide) (by decide)
                refine G_callv 39 (G_runV C Kc_X11_next KV_X11_137 (by omega) (by decide) (eM _ _ _) rfl (c_X11_next 0 s83_1 p2 e hpc_1 ((H_6.2.1 6 (by decide)).trans he) hpb_1 he160) rfl rfl rfl (Nat.le_of_ble_eq_true rfl) rfl dX11_text_36) rfl (fun s36_2 h36_2 => ?_)
                have H_7 : t_H t s s36_2 := t_H.tr H_6 (t_N.H h36_2.1)
                have Q_5 : t_P t ((([] : List Nat) ++ [([] : List Nat).length]) ++ [(([] : List Nat) ++ csa).length]) ((([] : List Nat) ++ csa) ++ csb) s36_2 := t_P.N hQn_1 h36_2.1
                rw [hc5_2] at h36_2
                obtain ⟨hN_2, hb_2, hn_2, hk_2, hV_2⟩ := h36_2
                refine G_aload_n (i := 0) C 40 dX11_text_39 rfl rfl rfl ?_
                refine X11_105g C 43 dX11_text_40 rfl (fun x40_2 ex40_2 => ?_)
                refine G_iconst (v := 3) C 44 dX11_text_43 rfl rfl ?_
                refine G_icmp_ne C 59 47 dX11_text_44 rfl rfl (fun c44_2 => ?_) (fun c44_2 => ?_)
                ·
                  have hno : ¬ t_c (s 5) e p2 = 20 + 2 := t_k3n (fun z => c44_2 (ex40_2.trans (hk_2.trans z))) (by decide)
                  have hD : ¬ t_ok (t_L (s 5) e 0) ∧ t_flt (t_L (s 5) e 0) = (t_pl (s 5) e p2) := ⟨(t_f2 hE1 hE2 (t_part_no hpb_1 hno)).1, (t_f2 hE1 hE2 (t_part_no hpb_1 hno)).2.trans (t_hp_L hpb_1)⟩
                  have hZ0 : s36_2 0 19 = nI (t_pl (s 5) e p2) := hb_2
                  refine G_iconst (v := 0) C 60 dX11_text_59 rfl rfl ?_
                  refine G_istore_n (i := 1) (L' := [some (.ref (e_ad E 0)), some (.int 0), some (.int 2)]) C 61 dX11_text_60 rfl rfl (Nat.le_of_ble_eq_true rfl) rfl rfl ?_
                  refine G_aload_n (i := 0) C 62 dX11_text_61 rfl rfl rfl ?_
                  refine X11_28g C 65 dX11_text_62 rfl ?_
                  refine G_iconst (v := 4) C 66 dX11_text_65 rfl rfl ?_
                  refine G_aload_n (i := 0) C 67 dX11_text_66 rfl rfl rfl ?_
                  refine X11_86g C 70 dX11_text_67 rfl (fun x67_2 ex67_2 => ?_)
                  have Sx67_2 : x67_2 = nI t := ex67_2.trans ((H_7.2.1 9 (by decide)).trans ht)
                  refine G_imul C 71 dX11_text_70 rfl (fun x70_2 ex70_2 => ?_)
                  have Nx70_2 : x70_2 = nI (4 * t) := g_mulN ex70_2 rfl Sx67_2
                  refine G_iload_n (i := 2) C 72 dX11_text_71 rfl rfl rfl ?_
                  refine G_iadd C 73 dX11_text_72 rfl (fun x72_2 ex72_2 => ?_)
                  have Nx72_2 : x72_2 = nI ((4 * t) + 2) := g_addN ex72_2 Nx70_2 rfl
                  refine G_aload_n (i := 0) C 74 dX11_text_73 rfl rfl rfl ?_
                  refine X11_115g C 77 dX11_text_74 rfl (fun x74_2 ex74_2 => ?_)
                  refine G_iast (n := 24) C 78 (by decide) (fun σ => eMk (by decide) _ _ σ) (((4 * t) + 2)) Nx72_2 (by omega) (by decide) (Nat.le_refl _) dX11_text_77 rfl (fun s77_2 es77_2 => ?_)
                  have H_8 : t_H t s s77_2 := t_H.tr H_7 (t_H.st (by decide) es77_2)
                  have Z_1 : s77_2 0 19 = nI (t_pl (s 5) e p2) := by rw [es77_2, g_up_n (by decide)]; exact hZ0
                  refine G_iload_n (i := 1) C 79 dX11_text_78 rfl rfl rfl ?_
                  refine G_if_eq C 93 82 dX11_text_79 rfl rfl (fun _ => ?_) (fun c => absurd c (by decide))
                  refine G_iconst (v := 0) C 94 dX11_text_93 rfl rfl ?_
                  refine G_istore_n (i := 1) (L' := [some (.ref (e_ad E 0)), some (.int 0), some (.int 2)]) C 95 dX11_text_94 rfl rfl (Nat.le_of_ble_eq_true rfl) rfl rfl ?_
                  refine G_iinc (w := 1) C 98 dX11_text_95 rfl rfl rfl rfl (fun x95_2 ex95_2 => ?_)
                  obtain rfl : x95_2 = 3 := ex95_2.trans (by decide)
                  show GW SM E _ 98 [some (.ref (e_ad E 0)), some (.int 0), some (.int 3)] [] s77_2
                  refine G_goto C 26 dX11_text_98 rfl ?_
                  refine G_iload_n (i := 2) C 27 dX11_text_26 rfl rfl rfl ?_
                  refine G_iconst (v := 3) C 28 dX11_text_27 rfl rfl ?_
                  refine G_icmp_ge C 101 31 dX11_text_28 rfl rfl (fun _ => ?_) (fun c => absurd c (by decide))
                  refine G_iload_n (i := 1) C 102 dX11_text_101 rfl rfl rfl ?_
                  refine G_if_eq C 122 105 dX11_text_102 rfl rfl (fun _ => ?_) (fun c => absurd c (by decide))
                  refine G_aload_n (i := 0) C 123 dX11_text_122 rfl rfl rfl ?_
                  refine X11_28g C 126 dX11_text_123 rfl ?_
                  refine G_iconst (v := 4) C 127 dX11_text_126 rfl rfl ?_
                  refine G_aload_n (i := 0) C 128 dX11_text_127 rfl rfl rfl ?_
                  refine X11_86g C 131 dX11_text_128 rfl (fun x128 ex128 => ?_)
                  have Sx128 : x128 = nI t := ex128.trans ((H_8.2.1 9 (by decide)).trans ht)
                  refine G_imul C 132 dX11_text_131 rfl (fun x131 ex131 => ?_)
                  have Nx131 : x131 = nI (4 * t) := g_mulN ex131 rfl Sx128
                  refine G_iconst (v := 3) C 133 dX11_text_132 rfl rfl ?_
                  refine G_iadd C 134 dX11_text_133 rfl (fun x133 ex133 => ?_)
                  have Nx133 : x133 = nI ((4 * t) + 3) := g_addN ex133 Nx131 rfl
                  refine G_aload_n (i := 0) C 135 dX11_text_134 rfl rfl rfl ?_
                  refine X11_115g C 138 dX11_text_135 rfl (fun x135 ex135 => ?_)
                  refine G_iast (n := 24) C 139 (by decide) (fun σ => eMk (by decide) _ _ σ) (((4 * t) + 3)) Nx133 (by omega) (by decide) (Nat.le_refl _) dX11_text_138 rfl (fun s138 es138 => ?_)
                  have H_9 : t_H t s s138 := t_H.tr H_8 (t_H.st (by decide) es138)
                  have Z_2 : s138 0 19 = nI (t_pl (s 5) e p2) := by rw [es138, g_up_n (by decide)]; exact Z_1
                  refine G_aload_n (i := 0) C 140 dX11_text_139 rfl rfl rfl ?_
                  refine G_iconst (v := 0) C 141 dX11_text_140 rfl rfl ?_
                  refine X11_67p C 144 dX11_text_141 rfl (fun s141 es141 => ?_)
                  have Z_3 : s141 0 19 = nI (t_pl (s 5) e p2) := by rw [es141, g_up_sj, if_neg (by decide)]; exact Z_2
                  refine G_iload_n (i := 1) C 145 dX11_text_144 rfl rfl rfl ?_
                  refine G_if_ne C 156 148 dX11_text_145 rfl rfl (fun c => absurd c (by decide)) (fun _ => ?_)
                  refine G_bipush (v := (-100)) C 150 dX11_text_148 rfl rfl ?_
                  refine G_aload_n (i := 0) C 151 dX11_text_150 rfl rfl rfl ?_
                  refine X11_102g C 154 dX11_text_151 rfl (fun x151 ex151 => ?_)
                  refine G_isub C 155 dX11_text_154 rfl (fun x154 ex154 => ?_)
                  exact G_iret C dX11_text_155 (hQ _ _ (Or.inr ⟨by omega, t_H.J H_9 (Or.inl rfl) es141, by rw [es141, g_up_sj, if_pos rfl], Or.inr ⟨hD.1, by rw [hD.2, ex154, ex151, Z_3], by rw [es141, g_up_sj, if_neg (by decide)]; exact (H_9.2.1 9 (by decide)).trans ht⟩⟩))
                ·
                  have hk3_2 := hk_2.symm.trans (ex40_2.symm.trans c44_2)
                  refine G_aload_n (i := 0) C 48 dX11_text_47 rfl rfl rfl ?_
                  refine X11_108g C 51 dX11_text_48 rfl (fun x48_2 ex48_2 => ?_)
                  refine G_iload_n (i := 2) C 52 dX11_text_51 rfl rfl rfl ?_
                  refine G_icmp_ne C 59 55 dX11_text_52 rfl rfl (fun c52_2 => ?_) (fun c52_2 => ?_)
                  ·
                    have hno : ¬ t_c (s 5) e p2 = 20 + 2 := t_k3v hV_2 (fun z => c52_2 (ex48_2.trans z)) rfl (by decide)
                    have hD : ¬ t_ok (t_L (s 5) e 0) ∧ t_flt (t_L (s 5) e 0) = (t_pl (s 5) e p2) := ⟨(t_f2 hE1 hE2 (t_part_no hpb_1 hno)).1, (t_f2 hE1 hE2 (t_part_no hpb_1 hno)).2.trans (t_hp_L hpb_1)⟩
                    have hZ0 : s36_2 0 19 = nI (t_pl (s 5) e p2) := hb_2
                    refine G_iconst (v := 0) C 60 dX11_text_59 rfl rfl ?_
                    refine G_istore_n (i := 1) (L' := [some (.ref (e_ad E 0)), some (.int 0), some (.int 2)]) C 61 dX11_text_60 rfl rfl (Nat.le_of_ble_eq_true rfl) rfl rfl ?_
                    refine G_aload_n (i := 0) C 62 dX11_text_61 rfl rfl rfl ?_
                    refine X11_28g C 65 dX11_text_62 rfl ?_
                    refine G_iconst (v := 4) C 66 dX11_text_65 rfl rfl ?_
                    refine G_aload_n (i := 0) C 67 dX11_text_66 rfl rfl rfl ?_
                    refine X11_86g C 70 dX11_text_67 rfl (fun x67_2 ex67_2 => ?_)
                    have Sx67_2 : x67_2 = nI t := ex67_2.trans ((H_7.2.1 9 (by decide)).trans ht)
                    refine G_imul C 71 dX11_text_70 rfl (fun x70_2 ex70_2 => ?_)
                    have Nx70_2 : x70_2 = nI (4 * t) := g_mulN ex70_2 rfl Sx67_2
                    refine G_iload_n (i := 2) C 72 dX11_text_71 rfl rfl rfl ?_
                    refine G_iadd C 73 dX11_text_72 rfl (fun x72_2 ex72_2 => ?_)
                    have Nx72_2 : x72_2 = nI ((4 * t) + 2) := g_addN ex72_2 Nx70_2 rfl
                    refine G_aload_n (i := 0) C 74 dX11_text_73 rfl rfl rfl ?_
                    refine X11_115g C 77 dX11_text_74 rfl (fun x74_2 ex74_2 => ?_)
                    refine G_iast (n := 24) C 78 (by decide) (fun σ => eMk (by decide) _ _ σ) (((4 * t) + 2)) Nx72_2 (by omega) (by decide) (Nat.le_refl _) dX11_text_77 rfl (fun s77_2 es77_2 => ?_)
                    have H_8 : t_H t s s77_2 := t_H.tr H_7 (t_H.st (by decide) es77_2)
                    have Z_1 : s77_2 0 19 = nI (t_pl (s 5) e p2) := by rw [es77_2, g_up_n (by decide)]; exact hZ0
                    refine G_iload_n (i := 1) C 79 dX11_text_78 rfl rfl rfl ?_
                    refine G_if_eq C 93 82 dX11_text_79 rfl rfl (fun _ => ?_) (fun c => absurd c (by decide))
                    refine G_iconst (v := 0) C 94 dX11_text_93 rfl rfl ?_
                    refine G_istore_n (i := 1) (L' := [some (.ref (e_ad E 0)), some (.int 0), some (.int 2)]) C 95 dX11_text_94 rfl rfl (Nat.le_of_ble_eq_true rfl) rfl rfl ?_
                    refine G_iinc (w := 1) C 98 dX11_text_95 rfl rfl rfl rfl (fun x95_2 ex95_2 => ?_)
                    obtain rfl : x95_2 = 3 := ex95_2.trans (by decide)
                    show GW SM E _ 98 [some (.ref (e_ad E 0)), some (.int 0), some (.int 3)] [] s77_2
                    refine G_goto C 26 dX11_text_98 rfl ?_
                    refine G_iload_n (i := 2) C 27 dX11_text_26 rfl rfl rfl ?_
                    refine G_iconst (v := 3) C 28 dX11_text_27 rfl rfl ?_
                    refine G_icmp_ge C 101 31 dX11_text_28 rfl rfl (fun _ => ?_) (fun c => absurd c (by decide))
                    refine G_iload_n (i := 1) C 102 dX11_text_101 rfl rfl rfl ?_
                    refine G_if_eq C 122 105 dX11_text_102 rfl rfl (fun _ => ?_) (fun c => absurd c (by decide))
                    refine G_aload_n (i := 0) C 123 dX11_text_122 rfl rfl rfl ?_
                    refine X11_28g C 126 dX11_text_123 rfl ?_
                    refine G_iconst (v := 4) C 127 dX11_text_126 rfl rfl ?_
                    refine G_aload_n (i := 0) C 128 dX11_text_127 rfl rfl rfl ?_
                    refine X11_86g C 131 dX11_text_128 rfl (fun x128 ex128 => ?_)
                    have Sx128 : x128 = nI t := ex128.trans ((H_8.2.1 9 (by decide)).trans ht)
                    refine G_imul C 132 dX11_text_131 rfl (fun x131 ex131 => ?_)
                    have Nx131 : x131 = nI (4 * t) := g_mulN ex131 rfl Sx128
                    refine G_iconst (v := 3) C 133 dX11_text_132 rfl rfl ?_
                    refine G_iadd C 134 dX11_text_133 rfl (fun x133 ex133 => ?_)
                    have Nx133 : x133 = nI ((4 * t) + 3) := g_addN ex133 Nx131 rfl
                    refine G_aload_n (i := 0) C 135 dX11_text_134 rfl rfl rfl ?_
                    refine X11_115g C 138 dX11_text_135 rfl (fun x135 ex135 => ?_)
                    refine G_iast (n := 24) C 139 (by decide) (fun σ => eMk (by decide) _ _ σ) (((4 * t) + 3)) Nx133 (by omega) (by decide) (Nat.le_refl _) dX11_text_138 rfl (fun s138 es138 => ?_)
                    have H_9 : t_H t s s138 := t_H.tr H_8 (t_H.st (by decide) es138)
                    have Z_2 : s138 0 19 = nI (t_pl (s 5) e p2) := by rw [es138, g_up_n (by decide)]; exact Z_1
                    refine G_aload_n (i := 0) C 140 dX11_text_139 rfl rfl rfl ?_
                    refine G_iconst (v := 0) C 141 dX11_text_140 rfl rfl ?_
                    refine X11_67p C 144 dX11_text_141 rfl (fun s141 es141 => ?_)
                    have Z_3 : s141 0 19 = nI (t_pl (s 5) e p2) := by rw [es141, g_up_sj, if_neg (by decide)]; exact Z_2
                    refine G_iload_n (i := 1) C 145 dX11_text_144 rfl rfl rfl ?_
                    refine G_if_ne C 156 148 dX11_text_145 rfl rfl (fun c => absurd c (by decide)) (fun _ => ?_)
                    refine G_bipush (v := (-100)) C 150 dX11_text_148 rfl rfl ?_
                    refine G_aload_n (i := 0) C 151 dX11_text_150 rfl rfl rfl ?_
                    refine X11_102g C 154 dX11_text_151 rfl (fun x151 ex151 => ?_)
                    refine G_isub C 155 dX11_text_154 rfl (fun x154 ex154 => ?_)
                    exact G_iret C dX11_text_155 (hQ _ _ (Or.inr ⟨by omega, t_H.J H_9 (Or.inl rfl) es141, by rw [es141, g_up_sj, if_pos rfl], Or.inr ⟨hD.1, by rw [hD.2, ex154, ex151, Z_3], by rw [es141, g_up_sj, if_neg (by decide)]; exact (H_9.2.1 9 (by decide)).trans ht⟩⟩))
                  ·
                    have hy_2 : t_c (s 5) e p2 = 20 + 2 := t_k3 (t_c_ok (s 5) e p2) hk3_2 hV_2 (ex48_2.symm.trans c52_2) rfl (by decide)
                    have hn0_2 := t_n_lt hpb_1 (by rw [hy_2]; exact (by decide))
                    have hbb_2 : ((([] : List Nat) ++ csa) ++ csb).length ≤ (t_n (s 5) e p2) := Nat.le_trans hbn_1 (Nat.le_of_lt hn0_2.1)
                    refine G_iconst (v := 1) C 56 dX11_text_55 rfl rfl ?_
                    refine G_goto C 60 dX11_text_56 rfl ?_
                    refine G_istore_n (i := 1) (L' := [some (.ref (e_ad E 0)), some (.int 1), some (.int 2)]) C 61 dX11_text_60 rfl rfl (Nat.le_of_ble_eq_true rfl) rfl rfl ?_
                    refine G_aload_n (i := 0) C 62 dX11_text_61 rfl rfl rfl ?_
                    refine X11_28g C 65 dX11_text_62 rfl ?_
                    refine G_iconst (v := 4) C 66 dX11_text_65 rfl rfl ?_
                    refine G_aload_n (i := 0) C 67 dX11_text_66 rfl rfl rfl ?_
                    refine X11_86g C 70 dX11_text_67 rfl (fun x67_2 ex67_2 => ?_)
                    have Sx67_2 : x67_2 = nI t := ex67_2.trans ((H_7.2.1 9 (by decide)).trans ht)
                    refine G_imul C 71 dX11_text_70 rfl (fun x70_2 ex70_2 => ?_)
                    have Nx70_2 : x70_2 = nI (4 * t) := g_mulN ex70_2 rfl Sx67_2
                    refine G_iload_n (i := 2) C 72 dX11_text_71 rfl rfl rfl ?_
                    refine G_iadd C 73 dX11_text_72 rfl (fun x72_2 ex72_2 => ?_)
                    have Nx72_2 : x72_2 = nI ((4 * t) + 2) := g_addN ex72_2 Nx70_2 rfl
                    refine G_aload_n (i := 0) C 74 dX11_text_73 rfl rfl rfl ?_
                    refine X11_115g C 77 dX11_text_74 rfl (fun x74_2 ex74_2 => ?_)
                    refine G_iast (n := 24) C 78 (by decide) (fun σ => eMk (by decide) _ _ σ) (((4 * t) + 2)) Nx72_2 (by omega) (by decide) (Nat.le_refl _) dX11_text_77 rfl (fun s77_2 es77_2 => ?_)
                    have H_8 : t_H t s s77_2 := t_H.tr H_7 (t_H.st (by decide) es77_2)
                    have Q_6 : t_P t (((([] : List Nat) ++ [([] : List Nat).length]) ++ [(([] : List Nat) ++ csa).length]) ++ [((([] : List Nat) ++ csa) ++ csb).length]) ((([] : List Nat) ++ csa) ++ csb) s77_2 := t_P.st Q_5 rfl (ex74_2.trans Q_5.1) es77_2
                    have A_3 : s77_2 0 18 = nI (t_n (s 5) e p2) := by rw [es77_2, g_up_n (by decide)]; exact hn_2
                    refine G_iload_n (i := 1) C 79 dX11_text_78 rfl rfl rfl ?_
                    refine G_if_eq C 93 82 dX11_text_79 rfl rfl (fun c => absurd c (by decide)) (fun _ => ?_)
                    refine G_aload_n (i := 0) C 83 dX11_text_82 rfl rfl rfl ?_
                    have hd5_2 : s77_2 5 = s 5 := H_8.1 5 (by decide) (by decide) (by decide) (by decide)
                    refine G_calli 86 (G_runV C Kc_X11_eRead KV_X11_150 (by omega) (by decide) (eM _ _ _) rfl (c_X11_eRead 0 s77_2 t ((([] : List Nat) ++ csa) ++ csb).length (t_n (s 5) e p2) e A_3 ((H_8.2.1 6 (by decide)).trans he) hn0_2.2 he160 (by omega) ((H_8.2.1 9 (by decide)).trans ht) Q_6.1 hbb_2) rfl rfl rfl (Nat.le_of_ble_eq_true rfl) rfl dX11_text_83) rfl (fun x83_2 s83_2 h83_2 => ?_)
                    have H_9 : t_H t s s83_2 := t_H.tr H_8 (t_G.H h83_2.1)
                    rw [hd5_2] at h83_2
                    refine G_if_eq C 93 89 dX11_text_86 rfl rfl (fun c86_2 => ?_) (fun c86_2 => ?_)
                    ·
                      obtain ⟨cq, q, T, o, heq, hq⟩ := (h83_2.2.resolve_left (fun y => absurd (y.1.symm.trans c86_2) (by decide))).2
                      have hD : ¬ t_ok (t_L (s 5) e 0) ∧ t_flt (t_L (s 5) e 0) = q := ⟨(t_f2 hE1 hE2 (t_part_ok hpb_1 hy_2 heq)).1, (t_f2 hE1 hE2 (t_part_ok hpb_1 hy_2 heq)).2.trans (rfl)⟩
                      have hZ0 : s83_2 0 19 = nI q := hq
                      clear h83_2
                      refine G_iconst (v := 0) C 94 dX11_text_93 rfl rfl ?_
                      refine G_istore_n (i := 1) (L' := [some (.ref (e_ad E 0)), some (.int 0), some (.int 2)]) C 95 dX11_text_94 rfl rfl (Nat.le_of_ble_eq_true rfl) rfl rfl ?_
                      refine G_iinc (w := 1) C 98 dX11_text_95 rfl rfl rfl rfl (fun x95_2 ex95_2 => ?_)
                      obtain rfl : x95_2 = 3 := ex95_2.trans (by decide)
                      show GW SM E _ 98 [some (.ref (e_ad E 0)), some (.int 0), some (.int 3)] [] s83_2
                      refine G_goto C 26 dX11_text_98 rfl ?_
                      refine G_iload_n (i := 2) C 27 dX11_text_26 rfl rfl rfl ?_
                      refine G_iconst (v := 3) C 28 dX11_text_27 rfl rfl ?_
                      refine G_icmp_ge C 101 31 dX11_text_28 rfl rfl (fun _ => ?_) (fun c => absurd c (by decide))
                      refine G_iload_n (i := 1) C 102 dX11_text_101 rfl rfl rfl ?_
                      refine G_if_eq C 122 105 dX11_text_102 rfl rfl (fun _ => ?_) (fun c => absurd c (by decide))
                      refine G_aload_n (i := 0) C 123 dX11_text_122 rfl rfl rfl ?_
                      refine X11_28g C 126 dX11_text_123 rfl ?_
                      refine G_iconst (v := 4) C 127 dX11_text_126 rfl rfl ?_
                      refine G_aload_n (i := 0) C 128 dX11_text_127 rfl rfl rfl ?_
                      refine X11_86g C 131 dX11_text_128 rfl (fun x128 ex128 => ?_)
                      have Sx128 : x128 = nI t := ex128.trans ((H_9.2.1 9 (by decide)).trans ht)
                      refine G_imul C 132 dX11_text_131 rfl (fun x131 ex131 => ?_)
                      have Nx131 : x131 = nI (4 * t) := g_mulN ex131 rfl Sx128
                      refine G_iconst (v := 3) C 133 dX11_text_132 rfl rfl ?_
                      refine G_iadd C 134 dX11_text_133 rfl (fun x133 ex133 => ?_)
                      have Nx133 : x133 = nI ((4 * t) + 3) := g_addN ex133 Nx131 rfl
                      refine G_aload_n (i := 0) C 135 dX11_text_134 rfl rfl rfl ?_
                      refine X11_115g C 138 dX11_text_135 rfl (fun x135 ex135 => ?_)
                      refine G_iast (n := 24) C 139 (by decide) (fun σ => eMk (by decide) _ _ σ) (((4 * t) + 3)) Nx133 (by omega) (by decide) (Nat.le_refl _) dX11_text_138 rfl (fun s138 es138 => ?_)
                      have H_10 : t_H t s s138 := t_H.tr H_9 (t_H.st (by decide) es138)
                      have Z_1 : s138 0 19 = nI q := by rw [es138, g_up_n (by decide)]; exact hZ0
                      refine G_aload_n (i := 0) C 140 dX11_text_139 rfl rfl rfl ?_
                      refine G_iconst (v := 0) C 141 dX11_text_140 rfl rfl ?_
                      refine X11_67p C 144 dX11_text_141 rfl (fun s141 es141 => ?_)
                      have Z_2 : s141 0 19 = nI q := by rw [es141, g_up_sj, if_neg (by decide)]; exact Z_1
                      refine G_iload_n (i := 1) C 145 dX11_text_144 rfl rfl rfl ?_
                      refine G_if_ne C 156 148 dX11_text_145 rfl rfl (fun c => absurd c (by decide)) (fun _ => ?_)
                      refine G_bipush (v := (-100)) C 150 dX11_text_148 rfl rfl ?_
                      refine G_aload_n (i := 0) C 151 dX11_text_150 rfl rfl rfl ?_
                      refine X11_102g C 154 dX11_text_151 rfl (fun x151 ex151 => ?_)
                      refine G_isub C 155 dX11_text_154 rfl (fun x154 ex154 => ?_)
                      exact G_iret C dX11_text_155 (hQ _ _ (Or.inr ⟨by omega, t_H.J H_10 (Or.inl rfl) es141, by rw [es141, g_up_sj, if_pos rfl], Or.inr ⟨hD.1, by rw [hD.2, ex154, ex151, Z_2], by rw [es141, g_up_sj, if_neg (by decide)]; exact (H_10.2.1 9 (by decide)).trans ht⟩⟩))
                    ·
                      obtain ⟨p3, csc, heq_2, hpa_2, hpb_2, hpc_2, hS_2, hl_2⟩ := (h83_2.2.resolve_right (fun y => c86_2 y.1)).2
                      have hE3 : t_r3 (t_L (s 5) e 0) = (true, t_L (s 5) e p3, csc) := t_e3 hE2 (t_part_ok hpb_1 hy_2 heq_2)
                      have hQn_2 : t_P t (((([] : List Nat) ++ [([] : List Nat).length]) ++ [(([] : List Nat) ++ csa).length]) ++ [((([] : List Nat) ++ csa) ++ csb).length]) (((([] : List Nat) ++ csa) ++ csb) ++ csc) s83_2 := t_P.G Q_6 h83_2.1 hS_2
                      have hbn_2 : (((([] : List Nat) ++ csa) ++ csb) ++ csc).length ≤ p3 := by rw [List.length_append]; exact hl_2
                      clear h83_2
                      refine G_iconst (v := 1) C 90 dX11_text_89 rfl rfl ?_
                      refine G_goto C 94 dX11_text_90 rfl ?_
                      refine G_istore_n (i := 1) (L' := [some (.ref (e_ad E 0)), some (.int 1), some (.int 2)]) C 95 dX11_text_94 rfl rfl (Nat.le_of_ble_eq_true rfl) rfl rfl ?_
                      refine G_iinc (w := 1) C 98 dX11_text_95 rfl rfl rfl rfl (fun x95_2 ex95_2 => ?_)
                      obtain rfl : x95_2 = 3 := ex95_2.trans (by decide)
                      show GW SM E _ 98 [some (.ref (e_ad E 0)), some (.int 1), some (.int 3)] [] s83_2
                      refine G_goto C 26 dX11_text_98 rfl ?_
                      refine G_iload_n (i := 2) C 27 dX11_text_26 rfl rfl rfl ?_
                      refine G_iconst (v := 3) C 28 dX11_text_27 rfl rfl ?_
                      refine G_icmp_ge C 101 31 dX11_text_28 rfl rfl (fun _ => ?_) (fun c => absurd c (by decide))
                      refine G_iload_n (i := 1) C 102 dX11_text_101 rfl rfl rfl ?_
                      refine G_if_eq C 122 105 dX11_text_102 rfl rfl (fun c => absurd c (by decide)) (fun _ => ?_)
                      refine G_aload_n (i := 0) C 106 dX11_text_105 rfl rfl rfl ?_
                      have hc5_3 : s83_2 5 = s 5 := H_9.1 5 (by decide) (by decide) (by decide) (by decide)
                      refine G_callv 109 (G_runV C Kc_X11_next KV_X11_137 (by omega) (by decide) (eM _ _ _) rfl (c_X11_next 0 s83_2 p3 e hpc_2 ((H_9.2.1 6 (by decide)).trans he) hpb_2 he160) rfl rfl rfl (Nat.le_of_ble_eq_true rfl) rfl dX11_text_106) rfl (fun s106 h106 => ?_)
                      have H_10 : t_H t s s106 := t_H.tr H_9 (t_N.H h106.1)
                      have Q_7 : t_P t (((([] : List Nat) ++ [([] : List Nat).length]) ++ [(([] : List Nat) ++ csa).length]) ++ [((([] : List Nat) ++ csa) ++ csb).length]) (((([] : List Nat) ++ csa) ++ csb) ++ csc) s106 := t_P.N hQn_2 h106.1
                      rw [hc5_3] at h106
                      obtain ⟨hN_3, hb_3, hn_3, hk_3, hV_3⟩ := h106
                      refine G_aload_n (i := 0) C 110 dX11_text_109 rfl rfl rfl ?_
                      refine X11_105g C 113 dX11_text_110 rfl (fun x110 ex110 => ?_)
                      refine G_if_ne C 120 116 dX11_text_113 rfl rfl (fun c113 => ?_) (fun c113 => ?_)
                      ·
                        have hne : ¬ t_c (s 5) e p3 = 0 := fun z => c113 (ex110.trans (hk_3.trans (by rw [z]; rfl)))
                        have hD : ¬ t_ok (t_L (s 5) e 0) ∧ t_flt (t_L (s 5) e 0) = (t_pl (s 5) e p3) := ⟨(t_f3 hE1 hE2 hE3 (by rw [t_hc_L hpb_2]; exact hne)).1, (t_f3 hE1 hE2 hE3 (by rw [t_hc_L hpb_2]; exact hne)).2.trans (t_hp_L hpb_2)⟩
                        have hZ0 : s106 0 19 = nI (t_pl (s 5) e p3) := hb_3
                        refine G_iconst (v := 0) C 121 dX11_text_120 rfl rfl ?_
                        refine G_istore_n (i := 1) (L' := [some (.ref (e_ad E 0)), some (.int 0), some (.int 3)]) C 122 dX11_text_121 rfl rfl (Nat.le_of_ble_eq_true rfl) rfl rfl ?_
                        refine G_aload_n (i := 0) C 123 dX11_text_122 rfl rfl rfl ?_
                        refine X11_28g C 126 dX11_text_123 rfl ?_
                        refine G_iconst (v := 4) C 127 dX11_text_126 rfl rfl ?_
                        refine G_aload_n (i := 0) C 128 dX11_text_127 rfl rfl rfl ?_
                        refine X11_86g C 131 dX11_text_128 rfl (fun x128 ex128 => ?_)
                        have Sx128 : x128 = nI t := ex128.trans ((H_10.2.1 9 (by decide)).trans ht)
                        refine G_imul C 132 dX11_text_131 rfl (fun x131 ex131 => ?_)
                        have Nx131 : x131 = nI (4 * t) := g_mulN ex131 rfl Sx128
                        refine G_iconst (v := 3) C 133 dX11_text_132 rfl rfl ?_
                        refine G_iadd C 134 dX11_text_133 rfl (fun x133 ex133 => ?_)
                        have Nx133 : x133 = nI ((4 * t) + 3) := g_addN ex133 Nx131 rfl
                        refine G_aload_n (i := 0) C 135 dX11_text_134 rfl rfl rfl ?_
                        refine X11_115g C 138 dX11_text_135 rfl (fun x135 ex135 => ?_)
                        refine G_iast (n := 24) C 139 (by decide) (fun σ => eMk (by decide) _ _ σ) (((4 * t) + 3)) Nx133 (by omega) (by decide) (Nat.le_refl _) dX11_text_138 rfl (fun s138 es138 => ?_)
                        have H_11 : t_H t s s138 := t_H.tr H_10 (t_H.st (by decide) es138)
                        have Z_1 : s138 0 19 = nI (t_pl (s 5) e p3) := by rw [es138, g_up_n (by decide)]; exact hZ0
                        refine G_aload_n (i := 0) C 140 dX11_text_139 rfl rfl rfl ?_
                        refine G_iconst (v := 0) C 141 dX11_text_140 rfl rfl ?_
                        refine X11_67p C 144 dX11_text_141 rfl (fun s141 es141 => ?_)
                        have Z_2 : s141 0 19 = nI (t_pl (s 5) e p3) := by rw [es141, g_up_sj, if_neg (by decide)]; exact Z_1
                        refine G_iload_n (i := 1) C 145 dX11_text_144 rfl rfl rfl ?_
                        refine G_if_ne C 156 148 dX11_text_145 rfl rfl (fun c => absurd c (by decide)) (fun _ => ?_)
                        refine G_bipush (v := (-100)) C 150 dX11_text_148 rfl rfl ?_
                        refine G_aload_n (i := 0) C 151 dX11_text_150 rfl rfl rfl ?_
                        refine X11_102g C 154 dX11_text_151 rfl (fun x151 ex151 => ?_)
                        refine G_isub C 155 dX11_text_154 rfl (fun x154 ex154 => ?_)
                        exact G_iret C dX11_text_155 (hQ _ _ (Or.inr ⟨by omega, t_H.J H_11 (Or.inl rfl) es141, by rw [es141, g_up_sj, if_pos rfl], Or.inr ⟨hD.1, by rw [hD.2, ex154, ex151, Z_2], by rw [es141, g_up_sj, if_neg (by decide)]; exact (H_11.2.1 9 (by decide)).trans ht⟩⟩))
                      ·
                        have hc0 : t_hc (t_L (s 5) e p3) = 0 := (t_hc_L hpb_2).trans (t_mi_0 (hk_3.symm.trans (ex110.symm.trans c113)))
                        refine G_iconst (v := 1) C 117 dX11_text_116 rfl rfl ?_
                        refine G_goto C 121 dX11_text_117 rfl ?_
                        refine G_istore_n (i := 1) (L' := [some (.ref (e_ad E 0)), some (.int 1), some (.int 3)]) C 122 dX11_text_121 rfl rfl (Nat.le_of_ble_eq_true rfl) rfl rfl ?_
                        refine G_aload_n (i := 0) C 123 dX11_text_122 rfl rfl rfl ?_
                        refine X11_28g C 126 dX11_text_123 rfl ?_
                        refine G_iconst (v := 4) C 127 dX11_text_126 rfl rfl ?_
                        refine G_aload_n (i := 0) C 128 dX11_text_127 rfl rfl rfl ?_
                        refine X11_86g C 131 dX11_text_128 rfl (fun x128 ex128 => ?_)
                        have Sx128 : x128 = nI t := ex128.trans ((H_10.2.1 9 (by decide)).trans ht)
                        refine G_imul C 132 dX11_text_131 rfl (fun x131 ex131 => ?_)
                        have Nx131 : x131 = nI (4 * t) := g_mulN ex131 rfl Sx128
                        refine G_iconst (v := 3) C 133 dX11_text_132 rfl rfl ?_
                        refine G_iadd C 134 dX11_text_133 rfl (fun x133 ex133 => ?_)
                        have Nx133 : x133 = nI ((4 * t) + 3) := g_addN ex133 Nx131 rfl
                        refine G_aload_n (i := 0) C 135 dX11_text_134 rfl rfl rfl ?_
                        refine X11_115g C 138 dX11_text_135 rfl (fun x135 ex135 => ?_)
                        refine G_iast (n := 24) C 139 (by decide) (fun σ => eMk (by decide) _ _ σ) (((4 * t) + 3)) Nx133 (by omega) (by decide) (Nat.le_refl _) dX11_text_138 rfl (fun s138 es138 => ?_)
                        have H_11 : t_H t s s138 := t_H.tr H_10 (t_H.st (by decide) es138)
                        have Q_8 : t_P t ((((([] : List Nat) ++ [([] : List Nat).length]) ++ [(([] : List Nat) ++ csa).length]) ++ [((([] : List Nat) ++ csa) ++ csb).length]) ++ [(((([] : List Nat) ++ csa) ++ csb) ++ csc).length]) (((([] : List Nat) ++ csa) ++ csb) ++ csc) s138 := t_P.st Q_7 rfl (ex135.trans Q_7.1) es138
                        refine G_aload_n (i := 0) C 140 dX11_text_139 rfl rfl rfl ?_
                        refine G_iconst (v := 0) C 141 dX11_text_140 rfl rfl ?_
                        refine X11_67p C 144 dX11_text_141 rfl (fun s141 es141 => ?_)
                        have Q_9 : t_P t ((((([] : List Nat) ++ [([] : List Nat).length]) ++ [(([] : List Nat) ++ csa).length]) ++ [((([] : List Nat) ++ csa) ++ csb).length]) ++ [(((([] : List Nat) ++ csa) ++ csb) ++ csc).length]) (((([] : List Nat) ++ csa) ++ csb) ++ csc) s141 := t_P.up Q_8 (by decide) es141
                        refine G_iload_n (i := 1) C 145 dX11_text_144 rfl rfl rfl ?_
                        refine G_if_ne C 156 148 dX11_text_145 rfl rfl (fun _ => ?_) (fun c => absurd c (by decide))
                        refine G_aload_n (i := 0) C 157 dX11_text_156 rfl rfl rfl ?_
                        refine G_dup C 158 dX11_text_157 rfl rfl ?_
                        refine X11_86g C 161 dX11_text_158 rfl (fun x158 ex158 => ?_)
                        have Sx158 : x158 = nI t := ex158.trans (by rw [es141, g_up_sj, if_neg (by decide)]; exact (H_11.2.1 9 (by decide)).trans ht)
                        refine G_iconst (v := 1) C 162 dX11_text_161 rfl rfl ?_
                        refine G_iadd C 163 dX11_text_162 rfl (fun x162 ex162 => ?_)
                        have Nx162 : x162 = nI (t + 1) := g_addN ex162 Sx158 rfl
                        refine X11_86p C 166 dX11_text_163 rfl (fun s163 es163 => ?_)
                        have Q_10 : t_P t ((((([] : List Nat) ++ [([] : List Nat).length]) ++ [(([] : List Nat) ++ csa).length]) ++ [((([] : List Nat) ++ csa) ++ csb).length]) ++ [(((([] : List Nat) ++ csa) ++ csb) ++ csc).length]) (((([] : List Nat) ++ csa) ++ csb) ++ csc) s163 := t_P.up Q_9 (by decide) es163
                        refine G_aload_n (i := 0) C 167 dX11_text_166 rfl rfl rfl ?_
                        refine X11_86g C 170 dX11_text_167 rfl (fun x167 ex167 => ?_)
                        have Sx167 : x167 = nI (t + 1) := ex167.trans (by rw [es163, g_up_sj, if_pos rfl]; exact Nx162)
                        refine G_iconst (v := 1) C 171 dX11_text_170 rfl rfl ?_
                        refine G_isub C 172 dX11_text_171 rfl (fun x171 ex171 => ?_)
                        have Nx171 : x171 = nI t := g_sub1 ex171 Sx167
                        obtain ⟨hok, hc1, hc2, hc3⟩ := t_f4 hE1 hE2 hE3 hc0
                        have hfin : mT (fun _ => t_cs (t_L (s 5) e 0)) s163 t := t_P_mT (by rw [hc1, hc2, hc3]; exact Q_10) (by rw [hc1, hc2, hc3]; exact Nat.le_trans hbn_2 (Nat.le_trans hpb_2 he160))
                        exact G_iret C dX11_text_172 (hQ _ _ (Or.inr ⟨by omega, t_J.up (t_H.J H_11 (Or.inl rfl) es141) (Or.inr rfl) es163, by rw [es163, g_up_sj, if_neg (by decide), es141, g_up_sj, if_pos rfl], Or.inl ⟨hok, Nx171, by rw [es163, g_up_sj, if_pos rfl]; exact Nx162, hfin⟩⟩))
  ·
    have n6 : t = 6 := (g_eqN (a := t) (b := 6) (hx := Sx1) (hy := rfl) (by omega) (by omega)).mp c6
    refine G_bipush (v := (-4)) C 11 dX11_text_9 rfl rfl ?_
    exact G_iret C dX11_text_11 (hQ _ _ (Or.inl ⟨n6, rfl, rfl⟩))
