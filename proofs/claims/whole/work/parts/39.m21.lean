theorem mI_f {TX : gTX} {nT n l : Nat} {P s s' : gS} {m : Nat → Prop} (h : mI TX nT n l P s) (f : Fr m s s') (h0 : ¬ m 0) (h1 : ¬ m 1) (h2 : ¬ m 2) (h3 : ¬ m 3) (h4 : ¬ m 4) (h6 : ¬ m 6) (h7 : ¬ m 7) : mI TX nT n l P s' :=
  ⟨by rw [mv_fr f h0 h1 h2 h3 h4]; exact h.1, h.2.1, fun t ht => mT_fr f h6 h7 (h.2.2 t ht)⟩
theorem x_low_a (P : gS) (W : Int32) {a : Nat} (h : a ≠ 5) : ∀ k, x_low P W k a = P a := by
  intro k
  induction k with
  | zero => rfl
  | succ k ih =>
    unfold x_low
    split
    · exact ih
    · rw [g_up_n h, ih]
theorem x_low_5 (P : gS) (W : Int32) (p : Nat) : ∀ k, x_low P W k 5 p = if p < k ∧ ¬ x_bit W (nI p) = 0 then 0 else P 5 p := by
  intro k
  induction k with
  | zero =>
    rw [if_neg (by omega)]
    rfl
  | succ k ih =>
    unfold x_low
    by_cases hb : x_bit W (nI k) = 0
    · rw [if_pos hb, ih]
      by_cases e : p = k
      · subst e
        rw [if_neg (by omega), if_neg (fun z => z.2 hb)]
      · have : (p < k + 1 ∧ ¬ x_bit W (nI p) = 0) = (p < k ∧ ¬ x_bit W (nI p) = 0) := by
          apply propext
          constructor
          · exact fun z => ⟨by omega, z.2⟩
          · exact fun z => ⟨by omega, z.2⟩
        simp only [this]
    · rw [if_neg hb, g_up_sj]
      by_cases e : p = k
      · subst e
        rw [if_pos rfl, if_pos ⟨by omega, hb⟩]
      · rw [if_neg e, ih]
        have : (p < k + 1 ∧ ¬ x_bit W (nI p) = 0) = (p < k ∧ ¬ x_bit W (nI p) = 0) := by
          apply propext
          constructor
          · exact fun z => ⟨by omega, z.2⟩
          · exact fun z => ⟨by omega, z.2⟩
        simp only [this]
theorem x_low_lis (P : gS) (W : Int32) (n p : Nat) : x_lis (x_low P W n) p = x_hears (P 6 p) (if p < n ∧ ¬ x_bit W (nI p) = 0 then 0 else P 5 p) (P 7 p) (P 0 0) := by
  unfold x_lis
  rw [x_low_a P W (a := 6) (by decide), x_low_a P W (a := 7) (by decide), x_low_a P W (a := 0) (by decide), x_low_5]
theorem x_low_wishes (TX : gTX) (P : gS) (W : Int32) (n p t : Nat) : x_wishes TX (x_low P W n) p t = x_wishes TX P p t := by
  have a0 := x_low_a P W (a := 0) (by decide) n
  have a1 := x_low_a P W (a := 1) (by decide) n
  have a2 := x_low_a P W (a := 2) (by decide) n
  have a3 := x_low_a P W (a := 3) (by decide) n
  have a4 := x_low_a P W (a := 4) (by decide) n
  have a6 := x_low_a P W (a := 6) (by decide) n
  have a7 := x_low_a P W (a := 7) (by decide) n
  unfold x_wishes x_wish x_asks x_nm
  rw [a0, a1, a2, a3, a4, a6, a7]
theorem x_mayN_iff (TX : gTX) (P : gS) (c : Int32) (t : Nat) : ∀ n, ¬ x_mayN TX P c t n = 0 ↔ ∀ p, p < n → P 2 p = c → x_lis P p = 0 ∨ x_wishes TX P p t = 0 := by
  intro n
  induction n with
  | zero => exact ⟨fun _ p hp => absurd hp (by omega), fun _ => by unfold x_mayN; decide⟩
  | succ n ih =>
    unfold x_mayN
    have key : (∀ p, p < n + 1 → P 2 p = c → x_lis P p = 0 ∨ x_wishes TX P p t = 0) ↔ (∀ p, p < n → P 2 p = c → x_lis P p = 0 ∨ x_wishes TX P p t = 0) ∧ (P 2 n = c → x_lis P n = 0 ∨ x_wishes TX P n t = 0) := by
      constructor
      · exact fun h => ⟨fun p hp => h p (by omega), h n (by omega)⟩
      · rintro ⟨h1, h2⟩ p hp
        by_cases e : p = n
        · rw [e]; exact h2
        · exact h1 p (by omega)
    rw [key, ← ih]
    by_cases h1 : P 2 n = c
    · rw [if_pos h1]
      by_cases h2 : x_lis P n = 0
      · rw [if_pos h2]
        exact ⟨fun h => ⟨h, fun _ => Or.inl h2⟩, fun h => h.1⟩
      · rw [if_neg h2]
        by_cases h3 : x_wishes TX P n t = 0
        · rw [if_pos h3]
          exact ⟨fun h => ⟨h, fun _ => Or.inr h3⟩, fun h => h.1⟩
        · rw [if_neg h3]
          exact ⟨fun h => absurd rfl h, fun h => by rcases h.2 h1 with z | z; exact absurd z h2; exact absurd z h3⟩
    · rw [if_neg h1]
      exact ⟨fun h => ⟨h, fun z => absurd z h1⟩, fun h => h.1⟩
theorem x_wsh_bit (TX : gTX) (P : gS) (c : Int32) (t : Nat) : ∀ n, n ≤ 6 → ∀ k, k < 32 → (¬ x_bit (x_wsh TX P c t n) (nI k) = 0 ↔ k < n ∧ P 2 k = c ∧ ¬ x_lis P k = 0 ∧ ¬ x_wishes TX P k t = 0) := by
  intro n
  induction n with
  | zero =>
    intro _ k hk
    have : x_bit (x_wsh TX P c t 0) (nI k) = 0 := (bt_x _ k hk).mpr (by show (0#32).getLsbD k = false; simp)
    exact ⟨fun h => absurd this h, fun h => absurd h.1 (by omega)⟩
  | succ n ih =>
    intro hn k hk
    have i := ih (by omega) k hk
    have same : k ≠ n → ((k < n + 1 ∧ P 2 k = c ∧ ¬ x_lis P k = 0 ∧ ¬ x_wishes TX P k t = 0) ↔ (k < n ∧ P 2 k = c ∧ ¬ x_lis P k = 0 ∧ ¬ x_wishes TX P k t = 0)) := fun e => ⟨fun h => ⟨by omega, h.2⟩, fun h => ⟨by omega, h.2⟩⟩
    unfold x_wsh
    by_cases h1 : P 2 n = c
    · rw [if_pos h1]
      by_cases h2 : x_lis P n = 0
      · rw [if_pos h2, i]
        by_cases e : k = n
        · subst e
          exact ⟨fun h => absurd h.1 (by omega), fun h => absurd h2 h.2.2.1⟩
        · exact (same e).symm
      · rw [if_neg h2]
        by_cases h3 : x_wishes TX P n t = 0
        · rw [if_pos h3, i]
          by_cases e : k = n
          · subst e
            exact ⟨fun h => absurd h.1 (by omega), fun h => absurd h3 h.2.2.2⟩
          · exact (same e).symm
        · rw [if_neg h3, bt_x _ k hk, bt_orp _ (by omega)]
          rw [bt_x _ k hk] at i
          by_cases e : k = n
          · subst e
            simp [h1, h2, h3]
          · rw [same e, ← i]
            simp [e]
    · rw [if_neg h1, i]
      by_cases e : k = n
      · subst e
        exact ⟨fun h => absurd h.1 (by omega), fun h => absurd h.2.1 h1⟩
      · exact (same e).symm
theorem x_hears_dn {k m h : Int32} (hk : ¬ k = 3) : x_hears k 0 m h = 0 := by
  unfold x_hears x_hearsD
  rw [if_neg hk]
  repeat (first | rfl | split)
  all_goals first | rfl | contradiction
theorem x_hears_3 {u m h : Int32} : ¬ x_hears 3 u m h = 0 := by
  unfold x_hears
  rw [if_pos rfl]
  decide
theorem hu_sub (TX : gTX) (P : gS) (c : Int32) (t n : Nat) (hn : n ≤ 6) (W : Int32) (h : ¬ x_mayN TX (x_low P W n) c t n = 0) : (∀ p, p < 6 → x_bit W (nI p) = 0 → x_bit (x_wsh TX P c t n) (nI p) = 0) ∧ ¬ x_mayN TX (x_low P (x_wsh TX P c t n) n) c t n = 0 := by
  rw [x_mayN_iff] at h
  have key : ∀ p, p < n → P 2 p = c → ¬ x_lis P p = 0 → ¬ x_wishes TX P p t = 0 → ¬ x_bit W (nI p) = 0 ∧ ¬ P 6 p = 3 := by
    intro p hp h1 h2 h3
    have := h p hp (by rw [x_low_a P W (by decide)]; exact h1)
    rw [x_low_wishes, x_low_lis] at this
    have h4 := this.resolve_right h3
    constructor
    · intro hb
      rw [if_neg (fun z => z.2 hb)] at h4
      exact h2 h4
    · intro hk
      rw [hk] at h4
      exact x_hears_3 h4
  constructor
  · intro p hp hb
    apply Classical.byContradiction
    intro z
    obtain ⟨a1, a2, a3, a4⟩ := (x_wsh_bit TX P c t n hn p (by omega)).mp z
    exact (key p a1 a2 a3 a4).1 hb
  · rw [x_mayN_iff]
    intro p hp h1
    rw [x_low_a _ _ (by decide)] at h1
    rw [x_low_wishes, x_low_lis]
    by_cases hw : x_bit (x_wsh TX P c t n) (nI p) = 0
    · rw [if_neg (fun z => z.2 hw)]
      apply Classical.byContradiction
      intro z
      have z1 : ¬ x_lis P p = 0 := fun y => z (Or.inl y)
      have z2 : ¬ x_wishes TX P p t = 0 := fun y => z (Or.inr y)
      exact (x_wsh_bit TX P c t n hn p (by omega)).mpr ⟨hp, h1, z1, z2⟩ hw
    · rw [if_pos ⟨hp, hw⟩]
      obtain ⟨a1, a2, a3, a4⟩ := (x_wsh_bit TX P c t n hn p (by omega)).mp hw
      exact Or.inl (x_hears_dn (key p a1 a2 a3 a4).2)
theorem hu_num : ∀ a, a < 64 → ∀ b, b < 64 → (∀ p, p < 6 → x_bit (nI b) (nI p) = 0 → x_bit (nI a) (nI p) = 0) → ¬ b < a ∧ (a = b ∨ x_cnt (nI a) < x_cnt (nI b)) := by decide +kernel
theorem hu_pow : ∀ n, n < 7 → (1 : Int32) <<< (nI n &&& 31) = nI (2 ^ n) ∧ 2 ^ n ≤ 64 := by decide +kernel
theorem x_wsh_lt (TX : gTX) (P : gS) (c : Int32) (t n : Nat) (hn : n ≤ 6) : ∃ w, w < 2 ^ n ∧ x_wsh TX P c t n = nI w := by
  obtain ⟨w, hw, ew⟩ := x_wsh1024 TX P c t n hn
  refine ⟨w, ?_, ew⟩
  apply Nat.lt_pow_two_of_testBit
  intro i hi
  by_cases h10 : i < 10
  · have hb : x_bit (x_wsh TX P c t n) (nI i) = 0 := by
      apply Classical.byContradiction
      intro z
      have := ((x_wsh_bit TX P c t n hn i (by omega)).mp z).1
      omega
    rw [bt_x _ i (by omega), ew] at hb
    have e : (nI w).toBitVec.getLsbD i = (decide (i < 32) && w.testBit i) := by
      show (BitVec.ofNat 32 w).getLsbD i = _
      rw [BitVec.getLsbD_ofNat]
    rw [e] at hb
    simpa [show i < 32 by omega] using hb
  · exact Nat.testBit_lt_two_pow (Nat.lt_of_lt_of_le (show w < 2 ^ 10 from hw) (Nat.pow_le_pow_right (by decide) (show 10 ≤ i by omega)))
theorem hu_in (TX : gTX) (P : gS) (c : Int32) (t n : Nat) (hn : n ≤ 6) : x_wsh TX P c t n &&& (x_lisAt P c n ^^^ (-1)) = 0 := by
  refine bt_z fun k hk => ?_
  rw [bt_andn _ _ hk, lisAt_bt P c n hn k hk]
  by_cases h : x_bit (x_wsh TX P c t n) (nI k) = 0
  · rw [(bt_x _ k hk).mp h]
    rfl
  · obtain ⟨a1, a2, a3, a4⟩ := (x_wsh_bit TX P c t n hn k hk).mp h
    simp [a1, a2, a3]
def x_hV (TX : gTX) (P : gS) (c : Int32) (t n : Nat) (W : Int32) : Prop := ¬ x_may TX (x_low P W n) c t = 0
theorem x_hVe {TX : gTX} {P : gS} {c : Int32} {t n : Nat} (hn : x_n P = n) (W : Int32) : x_hV TX P c t n W ↔ ¬ x_mayN TX (x_low P W n) c t n = 0 := by
  unfold x_hV x_may
  have : x_n (x_low P W n) = n := by
    unfold x_n
    rw [x_low_a P W (by decide)]
    exact hn
  rw [this]
theorem hu_best {TX : gTX} {P : gS} {c : Int32} {t n w k : Nat} (hn : n ≤ 6) (hx : x_n P = n) (ew : x_wsh TX P c t n = nI w) (hw : w < 64) (hk : k < 64) (h : x_hV TX P c t n (nI k)) : x_hV TX P c t n (nI w) ∧ ¬ k < w ∧ (w = k ∨ x_cnt (nI w) < x_cnt (nI k)) := by
  rw [x_hVe hx] at h
  obtain ⟨h1, h2⟩ := hu_sub TX P c t n hn (nI k) h
  rw [ew] at h1 h2
  exact ⟨(x_hVe hx _).mpr h2, hu_num w hw k hk h1⟩
theorem dX11_mayHushed_0 : decode cX11_mayHushed 0 = .ok (.aload_n 0, 1) := by decide +kernel
theorem dX11_mayHushed_1 : decode cX11_mayHushed 1 = .ok (.invokevirtual 212, 3) := by decide +kernel
theorem dX11_mayHushed_4 : decode cX11_mayHushed 4 = .ok (.iconst 0, 1) := by decide +kernel
theorem dX11_mayHushed_5 : decode cX11_mayHushed 5 = .ok (.istore 4, 2) := by decide +kernel
theorem dX11_mayHushed_7 : decode cX11_mayHushed 7 = .ok (.iload 4, 2) := by decide +kernel
theorem dX11_mayHushed_9 : decode cX11_mayHushed 9 = .ok (.aload_n 0, 1) := by decide +kernel
theorem dX11_mayHushed_10 : decode cX11_mayHushed 10 = .ok (.getfield 75, 3) := by decide +kernel
theorem dX11_mayHushed_13 : decode cX11_mayHushed 13 = .ok (.if_icmp .ge 45, 3) := by decide +kernel
theorem dX11_mayHushed_16 : decode cX11_mayHushed 16 = .ok (.aload_n 0, 1) := by decide +kernel
theorem dX11_mayHushed_17 : decode cX11_mayHushed 17 = .ok (.getfield 16, 3) := by decide +kernel
theorem dX11_mayHushed_20 : decode cX11_mayHushed 20 = .ok (.iconst 4, 1) := by decide +kernel
theorem dX11_mayHushed_21 : decode cX11_mayHushed 21 = .ok (.iload 4, 2) := by decide +kernel
theorem dX11_mayHushed_23 : decode cX11_mayHushed 23 = .ok (.imul, 1) := by decide +kernel
theorem dX11_mayHushed_24 : decode cX11_mayHushed 24 = .ok (.iconst 3, 1) := by decide +kernel
theorem dX11_mayHushed_25 : decode cX11_mayHushed 25 = .ok (.iadd, 1) := by decide +kernel
theorem dX11_mayHushed_26 : decode cX11_mayHushed 26 = .ok (.iload_n 3, 1) := by decide +kernel
theorem dX11_mayHushed_27 : decode cX11_mayHushed 27 = .ok (.iload 4, 2) := by decide +kernel
theorem dX11_mayHushed_29 : decode cX11_mayHushed 29 = .ok (.ishr, 1) := by decide +kernel
theorem dX11_mayHushed_30 : decode cX11_mayHushed 30 = .ok (.iconst 1, 1) := by decide +kernel
theorem dX11_mayHushed_31 : decode cX11_mayHushed 31 = .ok (.iand, 1) := by decide +kernel
theorem dX11_mayHushed_32 : decode cX11_mayHushed 32 = .ok (.iconst 1, 1) := by decide +kernel
theorem dX11_mayHushed_33 : decode cX11_mayHushed 33 = .ok (.if_icmp .ne 7, 3) := by decide +kernel
theorem dX11_mayHushed_36 : decode cX11_mayHushed 36 = .ok (.iconst 0, 1) := by decide +kernel
theorem dX11_mayHushed_37 : decode cX11_mayHushed 37 = .ok (.goto 14, 3) := by decide +kernel
theorem dX11_mayHushed_40 : decode cX11_mayHushed 40 = .ok (.aload_n 0, 1) := by decide +kernel
theorem dX11_mayHushed_41 : decode cX11_mayHushed 41 = .ok (.getfield 16, 3) := by decide +kernel
theorem dX11_mayHushed_44 : decode cX11_mayHushed 44 = .ok (.iconst 4, 1) := by decide +kernel
theorem dX11_mayHushed_45 : decode cX11_mayHushed 45 = .ok (.iload 4, 2) := by decide +kernel
theorem dX11_mayHushed_47 : decode cX11_mayHushed 47 = .ok (.imul, 1) := by decide +kernel
theorem dX11_mayHushed_48 : decode cX11_mayHushed 48 = .ok (.iconst 3, 1) := by decide +kernel
theorem dX11_mayHushed_49 : decode cX11_mayHushed 49 = .ok (.iadd, 1) := by decide +kernel
theorem dX11_mayHushed_50 : decode cX11_mayHushed 50 = .ok (.iaload, 1) := by decide +kernel
theorem dX11_mayHushed_51 : decode cX11_mayHushed 51 = .ok (.iastore, 1) := by decide +kernel
theorem dX11_mayHushed_52 : decode cX11_mayHushed 52 = .ok (.iinc 4 1, 3) := by decide +kernel
theorem dX11_mayHushed_55 : decode cX11_mayHushed 55 = .ok (.goto (-48), 3) := by decide +kernel
theorem dX11_mayHushed_58 : decode cX11_mayHushed 58 = .ok (.aload_n 0, 1) := by decide +kernel
theorem dX11_mayHushed_59 : decode cX11_mayHushed 59 = .ok (.iload_n 1, 1) := by decide +kernel
theorem dX11_mayHushed_60 : decode cX11_mayHushed 60 = .ok (.iload_n 2, 1) := by decide +kernel
theorem dX11_mayHushed_61 : decode cX11_mayHushed 61 = .ok (.invokevirtual 194, 3) := by decide +kernel
theorem dX11_mayHushed_64 : decode cX11_mayHushed 64 = .ok (.istore 4, 2) := by decide +kernel
theorem dX11_mayHushed_66 : decode cX11_mayHushed 66 = .ok (.aload_n 0, 1) := by decide +kernel
theorem dX11_mayHushed_67 : decode cX11_mayHushed 67 = .ok (.invokevirtual 218, 3) := by decide +kernel
theorem dX11_mayHushed_70 : decode cX11_mayHushed 70 = .ok (.iload 4, 2) := by decide +kernel
theorem dX11_mayHushed_72 : decode cX11_mayHushed 72 = .ok (.ireturn, 1) := by decide +kernel
set_option maxHeartbeats 4000000 in
set_option maxRecDepth 100000 in
theorem c_X11_mayHushed (d : Nat) (TX : gTX) (nT n l : Nat) (P s : gS) (hI : mI TX nT n l P s) (c : Int32) (t : Int32) (tt : Nat) (ht : t = nI tt) (htt : tt < 10) (set : Int32) : gMt SM yX11_mayHushed cX11_mayHushed 5 (some .boolean) (d + 8) (fun ad => [.ref (ad 0), .int c, .int t, .int set]) s (gQi SM (fun r s' => Fr mK s s' ∧ mI TX nT n l P s' ∧ r = x_may TX (x_low P set n) c tt)) := by
  have hn6 : n ≤ 6 := hI.2.1.2.1
  have hl6 : l < 6 := mI_l6 hI
  refine gMt_of SM_ok (by decide +kernel) (fun ad => [some (.ref (ad 0)), some (.int c), some (.int t), some (.int set), none]) (fun _ => rfl) (fun _ => rfl) (fun _ => Nat.le_of_ble_eq_true rfl) (fun E C0 => ?_)
  have C : gCx SM E RX11 cX11_mayHushed 5 (some .boolean) (d + 8) := C0
  have i : mI TX nT n l P s := hI
  have fk : Fr mK s s := Fr.rf
  refine G_aload_n (i := 0) C 1 dX11_mayHushed_0 rfl rfl rfl ?_
  refine G_callv 4 (G_runV C Kc_X11_keeps KV_X11_212 (by omega) (by decide) (eM _ _ _) rfl (c_X11_keeps 0 s) rfl rfl rfl (Nat.le_of_ble_eq_true rfl) rfl dX11_mayHushed_1) rfl (fun s1 h1 => ?_)
  have i_1 : mI TX nT n l P s1 := mI_kp i h1.1
  have fk_1 : Fr mK s s1 := Fr.tr fk (h1.1.mono (fun k hk => by unfold mK; omega))
  have kp1 : kp s s1 := h1.2
  refine G_iconst (v := 0) C 5 dX11_mayHushed_4 rfl rfl ?_
  refine G_istore (L' := [some (.ref (e_ad E 0)), some (.int c), some (.int t), some (.int set), some (.int 0)]) C 7 dX11_mayHushed_5 rfl (Nat.le_of_ble_eq_true rfl) rfl rfl ?_
  have L7 : ∀ (f7 : Nat) (k : Nat) (y : Int32) (sl7 : gS) (Ey : y = nI k) (hk : k ≤ n) (il7 : mI TX nT n l (x_low P set k) sl7) (kpl7 : kp s sl7) (fkl7 : Fr mK s sl7), n < k + f7 → GW SM E (gFin SM E (gQi SM (fun r s' => Fr mK s s' ∧ mI TX nT n l P s' ∧ r = x_may TX (x_low P set n) c tt))) 7 [some (.ref (e_ad E 0)), some (.int c), some (.int t), some (.int set), some (.int y)] [] sl7 := by
    intro f7
    induction f7 with
    | zero =>
      intro k y sl7 Ey hk il7 kpl7 fkl7 hf7
      exact absurd hf7 (by omega)
    | succ f7 ih7 =>
      intro k y sl7 Ey hk il7 kpl7 fkl7 hf7
      refine G_iload C 9 dX11_mayHushed_7 rfl rfl ?_
      refine G_aload_n (i := 0) C 10 dX11_mayHushed_9 rfl rfl rfl ?_
      refine X11_75g C 13 dX11_mayHushed_10 rfl (fun x10 ex10 => ?_)
      have Sx10 : x10 = nI n := ex10.trans (mI_n il7)
      refine G_icmp_ge C 58 16 dX11_mayHushed_13 rfl rfl (fun c13 => ?_) (fun c13 => ?_)
      ·
        have n13 : ¬ k < n := fun h => c13 ((g_ltN (a := k) (b := n) (hx := Ey) (hy := Sx10) (by omega) (by omega)).mpr h)
        have iM : mI TX nT n l (x_low P set n) sl7 := by have e : k = n := (by omega); subst e; exact il7
        refine G_aload_n (i := 0) C 59 dX11_mayHushed_58 rfl rfl rfl ?_
        refine G_iload_n (i := 1) C 60 dX11_mayHushed_59 rfl rfl rfl ?_
        refine G_iload_n (i := 2) C 61 dX11_mayHushed_60 rfl rfl rfl ?_
        refine G_calli 64 (G_runV C Kc_X11_may KV_X11_194 (by omega) (by decide) (eM _ _ _) rfl (c_X11_may 0 TX nT n l (x_low P set n) sl7 iM c t tt ht (by omega)) rfl rfl rfl (Nat.le_of_ble_eq_true rfl) rfl dX11_mayHushed_61) rfl (fun x61 s61 h61 => ?_)
        have i_2 : mI TX nT n l (x_low P set n) s61 := mI_fr iM (h61.1)
        have kp_1 : kp s s61 := kp_fr kpl7 h61.1 (by unfold mM; omega)
        have fk_2 : Fr mK s s61 := Fr.tr fkl7 h61.1.MK
        refine G_istore (L' := [some (.ref (e_ad E 0)), some (.int c), some (.int t), some (.int set), some (.int x61)]) C 66 dX11_mayHushed_64 rfl (Nat.le_of_ble_eq_true rfl) rfl rfl ?_
        refine G_aload_n (i := 0) C 67 dX11_mayHushed_66 rfl rfl rfl ?_
        refine G_callv 70 (G_runV C Kc_X11_lays KV_X11_218 (by omega) (by decide) (eM _ _ _) rfl (c_X11_lays 0 s61) rfl rfl rfl (Nat.le_of_ble_eq_true rfl) rfl dX11_mayHushed_67) rfl (fun s67 h67 => ?_)
        have i_3 : mI TX nT n l P s67 := mI_lays (s1 := s) hI kp_1 i_2 (x_low_a P set (a := 1) (by decide) n) fk_2 h67.2 h67.1
        have fk_3 : Fr mK s s67 := Fr.tr fk_2 (h67.1.mono (fun k hk => by unfold mK; omega))
        refine G_iload C 72 dX11_mayHushed_70 rfl rfl ?_
        exact G_zret C (g_nb (by rw [h61.2]; exact x_mayN01 _ _ _ _ _)) dX11_mayHushed_72 (⟨fk_3, i_3, h61.2⟩)
      ·
        have n13 : k < n := (g_ltN (a := k) (b := n) (hx := Ey) (hy := Sx10) (by omega) (by omega)).mp c13
        refine G_aload_n (i := 0) C 17 dX11_mayHushed_16 rfl rfl rfl ?_
        refine X11_16g C 20 dX11_mayHushed_17 rfl ?_
        refine G_iconst (v := 4) C 21 dX11_mayHushed_20 rfl rfl ?_
        refine G_iload C 23 dX11_mayHushed_21 rfl rfl ?_
        refine G_imul C 24 dX11_mayHushed_23 rfl (fun x23 ex23 => ?_)
        have Nx23 : x23 = nI (4 * k) := g_mulN ex23 rfl Ey
        refine G_iconst (v := 3) C 25 dX11_mayHushed_24 rfl rfl ?_
        refine G_iadd C 26 dX11_mayHushed_25 rfl (fun x25 ex25 => ?_)
        have Nx25 : x25 = nI ((4 * k) + 3) := g_addN ex25 Nx23 rfl
        refine G_iload_n (i := 3) C 27 dX11_mayHushed_26 rfl rfl rfl ?_
        refine G_iload C 29 dX11_mayHushed_27 rfl rfl ?_
        refine G_ishr C 30 dX11_mayHushed_29 rfl (fun x29 ex29 => ?_)
        refine G_iconst (v := 1) C 31 dX11_mayHushed_30 rfl rfl ?_
        refine G_iand C 32 dX11_mayHushed_31 rfl (fun x31 ex31 => ?_)
        refine G_iconst (v := 1) C 33 dX11_mayHushed_32 rfl rfl ?_
        refine G_icmp_ne C 40 36 dX11_mayHushed_33 rfl rfl (fun c33 => ?_) (fun c33 => ?_)
        ·
          refine G_aload_n (i := 0) C 41 dX11_mayHushed_40 rfl rfl rfl ?_
          refine X11_16g C 44 dX11_mayHushed_41 rfl ?_
          refine G_iconst (v := 4) C 45 dX11_mayHushed_44 rfl rfl ?_
          refine G_iload C 47 dX11_mayHushed_45 rfl rfl ?_
          refine G_imul C 48 dX11_mayHushed_47 rfl (fun x47 ex47 => ?_)
          have Nx47 : x47 = nI (4 * k) := g_mulN ex47 rfl Ey
          refine G_iconst (v := 3) C 49 dX11_mayHushed_48 rfl rfl ?_
          refine G_iadd C 50 dX11_mayHushed_49 rfl (fun x49 ex49 => ?_)
          have Nx49 : x49 = nI ((4 * k) + 3) := g_addN ex49 Nx47 rfl
          refine G_iald (n := 24) C 51 (by decide) (eMk (by decide) _ _ _) (((4 * k) + 3)) Nx49 (by omega) (by decide) dX11_mayHushed_50 rfl (fun x50 ex50 => ?_)
          have Sx50 : x50 = (x_low P set k) 5 k := ex50.trans (congrFun (congrFun il7.1 5) k)
          refine G_iast (n := 24) C 52 (by decide) (fun σ => eMk (by decide) _ _ σ) (((4 * k) + 3)) Nx25 (by omega) (by decide) (Nat.le_refl _) dX11_mayHushed_51 rfl (fun s51 es51 => ?_)
          have i_2 : mI TX nT n l (x_low P set (k + 1)) s51 := by have z := mI_up5 il7 es51; rw [Sx50, g_up_id] at z; rw [x_low, if_pos (x_bitN1 (by unfold x_bit; rw [← Ey, ← ex29, ← ex31]; exact c33))]; exact z
          have kp_1 : kp s s51 := kp_fr kpl7 (Fr.up (m := fun q => q = 3) es51 rfl) (by decide)
          have fk_2 : Fr mK s s51 := Fr.tr fkl7 (Fr.up es51 (by unfold mK; omega))
          refine G_iinc (w := 1) C 55 dX11_mayHushed_52 rfl rfl rfl rfl (fun x52 ex52 => ?_)
          have Nx52 : x52 = nI (k + 1) := g_addN ex52 Ey rfl
          show GW SM E _ 55 [some (.ref (e_ad E 0)), some (.int c), some (.int t), some (.int set), some (.int x52)] [] s51
          refine G_goto C 7 dX11_mayHushed_55 rfl ?_
          exact ih7 (k + 1) x52 s51 (g_cn (a := (k + 1)) Nx52 (by first | rfl | omega | (simp only [List.length_cons, List.length_drop]; done) | (simp only [List.length_cons, List.length_drop]; omega))) (by omega) (i_2) kp_1 fk_2 (by omega)
        ·
          refine G_iconst (v := 0) C 37 dX11_mayHushed_36 rfl rfl ?_
          refine G_goto C 51 dX11_mayHushed_37 rfl ?_
          refine G_iast (n := 24) C 52 (by decide) (fun σ => eMk (by decide) _ _ σ) (((4 * k) + 3)) Nx25 (by omega) (by decide) (Nat.le_refl _) dX11_mayHushed_51 rfl (fun s51 es51 => ?_)
          have i_2 : mI TX nT n l (x_low P set (k + 1)) s51 := by have z := mI_up5 il7 es51; rw [x_low, if_neg (x_bit1N (by unfold x_bit; rw [← Ey, ← ex29, ← ex31]; exact c33))]; exact z
          have kp_1 : kp s s51 := kp_fr kpl7 (Fr.up (m := fun q => q = 3) es51 rfl) (by decide)
          have fk_2 : Fr mK s s51 := Fr.tr fkl7 (Fr.up es51 (by unfold mK; omega))
          refine G_iinc (w := 1) C 55 dX11_mayHushed_52 rfl rfl rfl rfl (fun x52 ex52 => ?_)
          have Nx52 : x52 = nI (k + 1) := g_addN ex52 Ey rfl
          show GW SM E _ 55 [some (.ref (e_ad E 0)), some (.int c), some (.int t), some (.int set), some (.int x52)] [] s51
          refine G_goto C 7 dX11_mayHushed_55 rfl ?_
          exact ih7 (k + 1) x52 s51 (g_cn (a := (k + 1)) Nx52 (by first | rfl | omega | (simp only [List.length_cons, List.length_drop]; done) | (simp only [List.length_cons, List.length_drop]; omega))) (by omega) (i_2) kp_1 fk_2 (by omega)
  exact L7 (n + 1) 0 0 s1 (g_cn (a := 0) rfl (by first | rfl | omega)) (by omega) (i_1) kp1 fk_1 (by omega)
theorem dX11_hush_0 : decode cX11_hush 0 = .ok (.iload_n 1, 1) := by decide +kernel
theorem dX11_hush_1 : decode cX11_hush 1 = .ok (.invokestatic 170, 3) := by decide +kernel
theorem dX11_hush_4 : decode cX11_hush 4 = .ok (.ifCond .ne 6, 3) := by decide +kernel
theorem dX11_hush_7 : decode cX11_hush 7 = .ok (.bipush (-5), 2) := by decide +kernel
theorem dX11_hush_9 : decode cX11_hush 9 = .ok (.ireturn, 1) := by decide +kernel
theorem dX11_hush_10 : decode cX11_hush 10 = .ok (.iload_n 2, 1) := by decide +kernel
theorem dX11_hush_11 : decode cX11_hush 11 = .ok (.invokestatic 230, 3) := by decide +kernel
theorem dX11_hush_14 : decode cX11_hush 14 = .ok (.ifCond .eq 12, 3) := by decide +kernel
theorem dX11_hush_17 : decode cX11_hush 17 = .ok (.iload_n 3, 1) := by decide +kernel
theorem dX11_hush_18 : decode cX11_hush 18 = .ok (.iconst 0, 1) := by decide +kernel
theorem dX11_hush_19 : decode cX11_hush 19 = .ok (.iconst 1, 1) := by decide +kernel
theorem dX11_hush_20 : decode cX11_hush 20 = .ok (.invokestatic 78, 3) := by decide +kernel
theorem dX11_hush_23 : decode cX11_hush 23 = .ok (.ifCond .ne 6, 3) := by decide +kernel
theorem dX11_hush_26 : decode cX11_hush 26 = .ok (.bipush (-7), 2) := by decide +kernel
theorem dX11_hush_28 : decode cX11_hush 28 = .ok (.ireturn, 1) := by decide +kernel
theorem dX11_hush_29 : decode cX11_hush 29 = .ok (.aload_n 0, 1) := by decide +kernel
theorem dX11_hush_30 : decode cX11_hush 30 = .ok (.iload_n 1, 1) := by decide +kernel
theorem dX11_hush_31 : decode cX11_hush 31 = .ok (.invokevirtual 200, 3) := by decide +kernel
theorem dX11_hush_34 : decode cX11_hush 34 = .ok (.istore 4, 2) := by decide +kernel
theorem dX11_hush_36 : decode cX11_hush 36 = .ok (.iconst (-1), 1) := by decide +kernel
theorem dX11_hush_37 : decode cX11_hush 37 = .ok (.istore 5, 2) := by decide +kernel
theorem dX11_hush_39 : decode cX11_hush 39 = .ok (.iconst (-1), 1) := by decide +kernel
theorem dX11_hush_40 : decode cX11_hush 40 = .ok (.istore 6, 2) := by decide +kernel
theorem dX11_hush_42 : decode cX11_hush 42 = .ok (.iconst 0, 1) := by decide +kernel
theorem dX11_hush_43 : decode cX11_hush 43 = .ok (.istore 7, 2) := by decide +kernel
theorem dX11_hush_45 : decode cX11_hush 45 = .ok (.iload 7, 2) := by decide +kernel
theorem dX11_hush_47 : decode cX11_hush 47 = .ok (.iconst 1, 1) := by decide +kernel
theorem dX11_hush_48 : decode cX11_hush 48 = .ok (.aload_n 0, 1) := by decide +kernel
theorem dX11_hush_49 : decode cX11_hush 49 = .ok (.getfield 75, 3) := by decide +kernel
theorem dX11_hush_52 : decode cX11_hush 52 = .ok (.ishl, 1) := by decide +kernel
theorem dX11_hush_53 : decode cX11_hush 53 = .ok (.if_icmp .ge 88, 3) := by decide +kernel
theorem dX11_hush_56 : decode cX11_hush 56 = .ok (.iload 7, 2) := by decide +kernel
theorem dX11_hush_58 : decode cX11_hush 58 = .ok (.iload 4, 2) := by decide +kernel
theorem dX11_hush_60 : decode cX11_hush 60 = .ok (.iconst (-1), 1) := by decide +kernel
theorem dX11_hush_61 : decode cX11_hush 61 = .ok (.ixor, 1) := by decide +kernel
theorem dX11_hush_62 : decode cX11_hush 62 = .ok (.iand, 1) := by decide +kernel
theorem dX11_hush_63 : decode cX11_hush 63 = .ok (.ifCond .ne 23, 3) := by decide +kernel
theorem dX11_hush_66 : decode cX11_hush 66 = .ok (.iload 5, 2) := by decide +kernel
theorem dX11_hush_68 : decode cX11_hush 68 = .ok (.iconst (-1), 1) := by decide +kernel
theorem dX11_hush_69 : decode cX11_hush 69 = .ok (.if_icmp .eq 13, 3) := by decide +kernel
theorem dX11_hush_72 : decode cX11_hush 72 = .ok (.iload 7, 2) := by decide +kernel
theorem dX11_hush_74 : decode cX11_hush 74 = .ok (.invokestatic 82, 3) := by decide +kernel
theorem dX11_hush_77 : decode cX11_hush 77 = .ok (.iload 6, 2) := by decide +kernel
theorem dX11_hush_79 : decode cX11_hush 79 = .ok (.if_icmp .ge 7, 3) := by decide +kernel
theorem dX11_hush_82 : decode cX11_hush 82 = .ok (.iconst 1, 1) := by decide +kernel
theorem dX11_hush_83 : decode cX11_hush 83 = .ok (.goto 4, 3) := by decide +kernel
theorem dX11_hush_86 : decode cX11_hush 86 = .ok (.iconst 0, 1) := by decide +kernel
theorem dX11_hush_87 : decode cX11_hush 87 = .ok (.istore 8, 2) := by decide +kernel
theorem dX11_hush_89 : decode cX11_hush 89 = .ok (.iload 8, 2) := by decide +kernel
theorem dX11_hush_91 : decode cX11_hush 91 = .ok (.ifCond .eq 44, 3) := by decide +kernel
theorem dX11_hush_94 : decode cX11_hush 94 = .ok (.aload_n 0, 1) := by decide +kernel
theorem dX11_hush_95 : decode cX11_hush 95 = .ok (.iload_n 1, 1) := by decide +kernel
theorem dX11_hush_96 : decode cX11_hush 96 = .ok (.iload_n 2, 1) := by decide +kernel
theorem dX11_hush_97 : decode cX11_hush 97 = .ok (.iload 7, 2) := by decide +kernel
theorem dX11_hush_99 : decode cX11_hush 99 = .ok (.invokevirtual 233, 3) := by decide +kernel
theorem dX11_hush_102 : decode cX11_hush 102 = .ok (.istore 9, 2) := by decide +kernel
theorem dX11_hush_104 : decode cX11_hush 104 = .ok (.iload 9, 2) := by decide +kernel
theorem dX11_hush_106 : decode cX11_hush 106 = .ok (.ifCond .eq 8, 3) := by decide +kernel
theorem dX11_hush_109 : decode cX11_hush 109 = .ok (.iload 7, 2) := by decide +kernel
theorem dX11_hush_111 : decode cX11_hush 111 = .ok (.goto 5, 3) := by decide +kernel
theorem dX11_hush_114 : decode cX11_hush 114 = .ok (.iload 5, 2) := by decide +kernel
theorem dX11_hush_116 : decode cX11_hush 116 = .ok (.istore 5, 2) := by decide +kernel
theorem dX11_hush_118 : decode cX11_hush 118 = .ok (.iload 9, 2) := by decide +kernel
theorem dX11_hush_120 : decode cX11_hush 120 = .ok (.ifCond .eq 11, 3) := by decide +kernel
theorem dX11_hush_123 : decode cX11_hush 123 = .ok (.iload 7, 2) := by decide +kernel
theorem dX11_hush_125 : decode cX11_hush 125 = .ok (.invokestatic 82, 3) := by decide +kernel
theorem dX11_hush_128 : decode cX11_hush 128 = .ok (.goto 5, 3) := by decide +kernel
theorem dX11_hush_131 : decode cX11_hush 131 = .ok (.iload 6, 2) := by decide +kernel
theorem dX11_hush_133 : decode cX11_hush 133 = .ok (.istore 6, 2) := by decide +kernel
theorem dX11_hush_135 : decode cX11_hush 135 = .ok (.iinc 7 1, 3) := by decide +kernel
theorem dX11_hush_138 : decode cX11_hush 138 = .ok (.goto (-93), 3) := by decide +kernel
theorem dX11_hush_141 : decode cX11_hush 141 = .ok (.iload_n 3, 1) := by decide +kernel
theorem dX11_hush_142 : decode cX11_hush 142 = .ok (.ifCond .ne 8, 3) := by decide +kernel
theorem dX11_hush_145 : decode cX11_hush 145 = .ok (.iload 5, 2) := by decide +kernel
theorem dX11_hush_147 : decode cX11_hush 147 = .ok (.goto 5, 3) := by decide +kernel
theorem dX11_hush_150 : decode cX11_hush 150 = .ok (.iload 6, 2) := by decide +kernel
theorem dX11_hush_152 : decode cX11_hush 152 = .ok (.ireturn, 1) := by decide +kernel
set_option maxHeartbeats 4000000 in
set_option maxRecDepth 100000 in
theorem c_X11_hush (d : Nat) (TX : gTX) (P B s : gS) (hR0 : RM TX P B s) (c t q : Int32) : gMt SM yX11_hush cX11_hush 10 (some .int) (d + 9) (fun ad => [.ref (ad 0), .int c, .int t, .int q]) s (gQi SM (fun r s' => RM TX P B s' ∧ r = s_hush TX P c t q)) := by
  obtain ⟨nT, n, l, hR⟩ := hR0
  have hI := hR.1
  have hn6 : n ≤ 6 := hI.2.1.2.1
  have hl6 : l < 6 := mI_l6 hI
  have hxn : x_n P = n := x_nOf hI.2.1.1 hn6
  have hbI := hR.2.2
  have hnT6 : nT ≤ 6 := hI.2.1.2.2.2.2.1
  obtain ⟨tn0, htn0, etn0⟩ := hbI.2.1
  refine gMt_of SM_ok (by decide +kernel) (fun ad => [some (.ref (ad 0)), some (.int c), some (.int t), some (.int q), none, none, none, none, none, none]) (fun _ => rfl) (fun _ => rfl) (fun _ => Nat.le_of_ble_eq_true rfl) (fun E C0 => ?_)
  have C : gCx SM E RX11 cX11_hush 10 (some .int) (d + 9) := C0
  have fn : Qn s s := Qn.rf
  have i : mI TX nT n l P s := hI
  refine G_iload_n (i := 1) C 1 dX11_hush_0 rfl rfl rfl ?_
  refine G_calli 4 (G_runS C Kc_X11_isCorner KS_X11_170 (by omega) (c_X11_isCorner 0 c s) rfl rfl (Nat.le_of_ble_eq_true rfl) rfl dX11_hush_1) rfl (fun x1 s1 h1 => ?_)
  obtain ⟨es1, h1⟩ := h1
  have es1 := es1.symm
  subst es1
  refine G_if_ne C 10 7 dX11_hush_4 rfl rfl (fun c4 => ?_) (fun c4 => ?_)
  ·
    have k4 := g_neT h1 c4
    refine G_iload_n (i := 2) C 11 dX11_hush_10 rfl rfl rfl ?_
    refine G_calli 14 (G_runS C Kc_X11_isThing KS_X11_230 (by omega) (c_X11_isThing 0 t s) rfl rfl (Nat.le_of_ble_eq_true rfl) rfl dX11_hush_11) rfl (fun x11 s11 h11 => ?_)
    obtain ⟨es11, h11⟩ := h11
    have es11 := es11.symm
    subst es11
    refine G_if_eq C 26 17 dX11_hush_14 rfl rfl (fun c14 => ?_) (fun c14 => ?_)
    ·
      have k14 := h11.symm.trans c14
      refine G_bipush (v := (-7)) C 28 dX11_hush_26 rfl rfl ?_
      exact G_iret C dX11_hush_28 (⟨⟨nT, n, l, hR⟩, by unfold s_hush; rw [if_neg k4, if_pos k14]⟩)
    ·
      have k14 := g_neT h11 c14
      obtain ⟨ut, hut, eut⟩ := x_inR (b := 9) k14 rfl (by decide)
      have cut : t.toNatClampNeg = ut := by rw [eut, nI_clamp (by omega)]
      refine G_iload_n (i := 3) C 18 dX11_hush_17 rfl rfl rfl ?_
      refine G_iconst (v := 0) C 19 dX11_hush_18 rfl rfl ?_
      refine G_iconst (v := 1) C 20 dX11_hush_19 rfl rfl ?_
      refine G_calli 23 (G_runS C Kc_X11_in KS_X11_78 (by omega) (c_X11_in 0 q 0 1 s) rfl rfl (Nat.le_of_ble_eq_true rfl) rfl dX11_hush_20) rfl (fun x20 s20 h20 => ?_)
      obtain ⟨es20, h20⟩ := h20
      have es20 := es20.symm
      subst es20
      refine G_if_ne C 29 26 dX11_hush_23 rfl rfl (fun c23 => ?_) (fun c23 => ?_)
      ·
        have k23 := g_neT h20 c23
        obtain ⟨w, hwN, ew⟩ := x_wsh_lt TX P c ut n hn6
        have hp2 := hu_pow n (by omega)
        obtain ⟨N, hN⟩ : ∃ N, N = 2 ^ n := ⟨_, rfl⟩
        rw [← hN] at hwN hp2
        obtain ⟨hp1, hN64⟩ := hp2
        refine G_aload_n (i := 0) C 30 dX11_hush_29 rfl rfl rfl ?_
        refine G_iload_n (i := 1) C 31 dX11_hush_30 rfl rfl rfl ?_
        refine G_calli 34 (G_runV C Kc_X11_listeners KV_X11_200 (by omega) (by decide) (eM _ _ _) rfl (c_X11_listeners 0 TX nT n l P s i c) rfl rfl rfl (Nat.le_of_ble_eq_true rfl) rfl dX11_hush_31) rfl (fun x31 s31 h31 => ?_)
        obtain ⟨es31, h31⟩ := h31
        have es31 := es31.symm
        subst es31
        refine G_istore (L' := [some (.ref (e_ad E 0)), some (.int c), some (.int t), some (.int q), some (.int x31), none, none, none, none, none]) C 36 dX11_hush_34 rfl (Nat.le_of_ble_eq_true rfl) rfl rfl ?_
        refine G_iconst (v := (-1)) C 37 dX11_hush_36 rfl rfl ?_
        refine G_istore (L' := [some (.ref (e_ad E 0)), some (.int c), some (.int t), some (.int q), some (.int x31), some (.int (-1)), none, none, none, none]) C 39 dX11_hush_37 rfl (Nat.le_of_ble_eq_true rfl) rfl rfl ?_
        refine G_iconst (v := (-1)) C 40 dX11_hush_39 rfl rfl ?_
        refine G_istore (L' := [some (.ref (e_ad E 0)), some (.int c), some (.int t), some (.int q), some (.int x31), some (.int (-1)), some (.int (-1)), none, none, none]) C 42 dX11_hush_40 rfl (Nat.le_of_ble_eq_true rfl) rfl rfl ?_
        refine G_iconst (v := 0) C 43 dX11_hush_42 rfl rfl ?_
        refine G_istore (L' := [some (.ref (e_ad E 0)), some (.int c), some (.int t), some (.int q), some (.int x31), some (.int (-1)), some (.int (-1)), some (.int 0), none, none]) C 45 dX11_hush_43 rfl (Nat.le_of_ble_eq_true rfl) rfl rfl ?_
        have L45 : ∀ (f45 : Nat) (k : Nat) (be fe y : Int32) (sl45 : gS) (Ey : y = nI k) (hk : k ≤ N) (hv : (¬ (w < k ∧ x_hV TX P c ut n (nI w)) → be = -1 ∧ fe = -1) ∧ (w < k ∧ x_hV TX P c ut n (nI w) → be = nI w ∧ fe = x_cnt (nI w))) (fnl45 : Qn s sl45) (il45 : mI TX nT n l P sl45), N < k + f45 → GW SM E (gFin SM E (gQi SM (fun r s' => RM TX P B s' ∧ r = s_hush TX P c t q))) 45 [some (.ref (e_ad E 0)), some (.int c), some (.int t), some (.int q), some (.int x31), some (.int be), some (.int fe), some (.int y), none, none] [] sl45 := by
          intro f45
          induction f45 with
          | zero =>
            intro k be fe y sl45 Ey hk hv fnl45 il45 hf45
            exact absurd hf45 (by omega)
          | succ f45 ih45 =>
            intro k be fe y sl45 Ey hk hv fnl45 il45 hf45
            refine G_iload C 47 dX11_hush_45 rfl rfl ?_
            refine G_iconst (v := 1) C 48 dX11_hush_47 rfl rfl ?_
            refine G_aload_n (i := 0) C 49 dX11_hush_48 rfl rfl rfl ?_
            refine X11_75g C 52 dX11_hush_49 rfl (fun x49 ex49 => ?_)
            have Sx49 : x49 = nI n := ex49.trans (mI_n il45)
            refine G_ishl C 53 dX11_hush_52 rfl (fun x52 ex52 => ?_)
            have Nx52 : x52 = nI N := by rw [ex52, Sx49]; exact hp1
            refine G_icmp_ge C 141 56 dX11_hush_53 rfl rfl (fun c53 => ?_) (fun c53 => ?_)
            ·
              have n53 : ¬ k < N := fun h => c53 ((g_ltN (a := k) (b := N) (hx := Ey) (hy := Nx52) (by omega) (by omega)).mpr h)
              refine G_iload_n (i := 3) C 142 dX11_hush_141 rfl rfl rfl ?_
              refine G_if_ne C 150 145 dX11_hush_142 rfl rfl (fun c142 => ?_) (fun c142 => ?_)
              ·
                refine G_iload C 152 dX11_hush_150 rfl rfl ?_
                exact G_iret C dX11_hush_152 (⟨RM_i hR il45 fnl45, by
                    unfold s_hush; rw [if_neg k4, if_neg k14, if_neg k23, cut, hxn]
                    by_cases hVw : x_hV TX P c ut n (nI w)
                    · have z := hv.2 ⟨by omega, hVw⟩
                      unfold x_hV at hVw
                      rw [ew, if_neg hVw, if_neg c142]; exact z.2
                    · have z := hv.1 (fun y => hVw y.2)
                      unfold x_hV at hVw
                      rw [ew, if_pos (Classical.not_not.mp hVw)]; exact z.2⟩)
              ·
                refine G_iload C 147 dX11_hush_145 rfl rfl ?_
                refine G_goto C 152 dX11_hush_147 rfl ?_
                exact G_iret C dX11_hush_152 (⟨RM_i hR il45 fnl45, by
                    unfold s_hush; rw [if_neg k4, if_neg k14, if_neg k23, cut, hxn]
                    by_cases hVw : x_hV TX P c ut n (nI w)
                    · have z := hv.2 ⟨by omega, hVw⟩
                      unfold x_hV at hVw
                      rw [ew, if_neg hVw, if_pos c142]; exact z.1
                    · have z := hv.1 (fun y => hVw y.2)
                      unfold x_hV at hVw
                      rw [ew, if_pos (Classical.not_not.mp hVw)]; exact z.1⟩)
            ·
              have n53 : k < N := (g_ltN (a := k) (b := N) (hx := Ey) (hy := Nx52) (by omega) (by omega)).mp c53
              refine G_iload C 58 dX11_hush_56 rfl rfl ?_
              refine G_iload C 60 dX11_hush_58 rfl rfl ?_
              refine G_iconst (v := (-1)) C 61 dX11_hush_60 rfl rfl ?_
              refine G_ixor C 62 dX11_hush_61 rfl (fun x61 ex61 => ?_)
              refine G_iand C 63 dX11_hush_62 rfl (fun x62 ex62 => ?_)
              refine G_if_ne C 86 66 dX11_hush_63 rfl rfl (fun c63 => ?_) (fun c63 => ?_)
              ·
                refine G_iconst (v := 0) C 87 dX11_hush_86 rfl rfl ?_
                refine G_istore (L' := [some (.ref (e_ad E 0)), some (.int c), some (.int t), some (.int q), some (.int x31), some (.int be), some (.int fe), some (.int y), some (.int 0), none]) C 89 dX11_hush_87 rfl (Nat.le_of_ble_eq_true rfl) rfl rfl ?_
                refine G_iload C 91 dX11_hush_89 rfl rfl ?_
                refine G_if_eq C 135 94 dX11_hush_91 rfl rfl (fun _ => ?_) (fun c => absurd c (by decide))
                refine G_iinc (w := 1) C 138 dX11_hush_135 rfl rfl rfl rfl (fun x135 ex135 => ?_)
                have Nx135 : x135 = nI (k + 1) := g_addN ex135 Ey rfl
                show GW SM E _ 138 [some (.ref (e_ad E 0)), some (.int c), some (.int t), some (.int q), some (.int x31), some (.int be), some (.int fe), some (.int x135), some (.int 0), none] [] sl45
                refine G_goto C 45 dX11_hush_138 rfl ?_
                refine G_drop (L' := [some (.ref (e_ad E 0)), some (.int c), some (.int t), some (.int q), some (.int x31), some (.int be), some (.int fe), some (.int x135), none, none]) ⟨rfl, rfl, rfl, rfl, rfl, rfl, rfl, rfl, trivial⟩ ?_
                exact ih45 (k + 1) be fe x135 sl45 (g_cn (a := (k + 1)) Nx135 (by first | rfl | omega | (simp only [List.length_cons, List.length_drop]; done) | (simp only [List.length_cons, List.length_drop]; omega))) (by omega) (by
                      have hne : ¬ k = w := fun e => c63 (by rw [ex62, ex61, h31, Ey, e, ← ew]; exact hu_in TX P c ut n hn6)
                      refine ⟨fun z => hv.1 (fun y => z ⟨by omega, y.2⟩), fun z => hv.2 ⟨by omega, z.2⟩⟩) fnl45 il45 (by omega)
              ·
                refine G_iload C 68 dX11_hush_66 rfl rfl ?_
                refine G_iconst (v := (-1)) C 69 dX11_hush_68 rfl rfl ?_
                refine G_icmp_eq C 82 72 dX11_hush_69 rfl rfl (fun c69 => ?_) (fun c69 => ?_)
                ·
                  refine G_iconst (v := 1) C 83 dX11_hush_82 rfl rfl ?_
                  refine G_goto C 87 dX11_hush_83 rfl ?_
                  refine G_istore (L' := [some (.ref (e_ad E 0)), some (.int c), some (.int t), some (.int q), some (.int x31), some (.int be), some (.int fe), some (.int y), some (.int 1), none]) C 89 dX11_hush_87 rfl (Nat.le_of_ble_eq_true rfl) rfl rfl ?_
                  refine G_iload C 91 dX11_hush_89 rfl rfl ?_
                  refine G_if_eq C 135 94 dX11_hush_91 rfl rfl (fun c => absurd c (by decide)) (fun _ => ?_)
                  refine G_aload_n (i := 0) C 95 dX11_hush_94 rfl rfl rfl ?_
                  refine G_iload_n (i := 1) C 96 dX11_hush_95 rfl rfl rfl ?_
                  refine G_iload_n (i := 2) C 97 dX11_hush_96 rfl rfl rfl ?_
                  refine G_iload C 99 dX11_hush_97 rfl rfl ?_
                  refine G_calli 102 (G_runV C Kc_X11_mayHushed KV_X11_233 (by omega) (by decide) (eM _ _ _) rfl (c_X11_mayHushed 0 TX nT n l P sl45 il45 c t ut eut (by omega) y) rfl rfl rfl (Nat.le_of_ble_eq_true rfl) rfl dX11_hush_99) rfl (fun x99 s99 h99 => ?_)
                  have fn_1 : Qn s s99 := Qn.tr fnl45 (h99.1.KR)
                  have i_1 : mI TX nT n l P s99 := h99.2.1
                  have hV : ¬ x99 = 0 ↔ x_hV TX P c ut n (nI k) := by rw [h99.2.2, Ey]; exact Iff.rfl
                  refine G_istore (L' := [some (.ref (e_ad E 0)), some (.int c), some (.int t), some (.int q), some (.int x31), some (.int be), some (.int fe), some (.int y), some (.int 1), some (.int x99)]) C 104 dX11_hush_102 rfl (Nat.le_of_ble_eq_true rfl) rfl rfl ?_
                  refine G_iload C 106 dX11_hush_104 rfl rfl ?_
                  refine G_if_eq C 114 109 dX11_hush_106 rfl rfl (fun c106 => ?_) (fun c106 => ?_)
                  ·
                    refine G_iload C 116 dX11_hush_114 rfl rfl ?_
                    refine G_istore (L' := [some (.ref (e_ad E 0)), some (.int c), some (.int t), some (.int q), some (.int x31), some (.int be), some (.int fe), some (.int y), some (.int 1), some (.int x99)]) C 118 dX11_hush_116 rfl (Nat.le_of_ble_eq_true rfl) rfl rfl ?_
                    refine G_iload C 120 dX11_hush_118 rfl rfl ?_
                    refine G_if_eq C 131 123 dX11_hush_120 rfl rfl (fun c120 => ?_) (fun c120 => ?_)
                    ·
                      refine G_iload C 133 dX11_hush_131 rfl rfl ?_
                      refine G_istore (L' := [some (.ref (e_ad E 0)), some (.int c), some (.int t), some (.int q), some (.int x31), some (.int be), some (.int fe), some (.int y), some (.int 1), some (.int x99)]) C 135 dX11_hush_133 rfl (Nat.le_of_ble_eq_true rfl) rfl rfl ?_
                      refine G_iinc (w := 1) C 138 dX11_hush_135 rfl rfl rfl rfl (fun x135 ex135 => ?_)
                      have Nx135 : x135 = nI (k + 1) := g_addN ex135 Ey rfl
                      show GW SM E _ 138 [some (.ref (e_ad E 0)), some (.int c), some (.int t), some (.int q), some (.int x31), some (.int be), some (.int fe), some (.int x135), some (.int 1), some (.int x99)] [] s99
                      refine G_goto C 45 dX11_hush_138 rfl ?_
                      refine G_drop (L' := [some (.ref (e_ad E 0)), some (.int c), some (.int t), some (.int q), some (.int x31), some (.int be), some (.int fe), some (.int x135), none, none]) ⟨rfl, rfl, rfl, rfl, rfl, rfl, rfl, rfl, trivial⟩ ?_
                      exact ih45 (k + 1) be fe x135 s99 (g_cn (a := (k + 1)) Nx135 (by first | rfl | omega | (simp only [List.length_cons, List.length_drop]; done) | (simp only [List.length_cons, List.length_drop]; omega))) (by omega) (by
                            have hnV : ¬ x_hV TX P c ut n (nI k) := fun z => hV.mpr z c106
                            refine ⟨fun z => hv.1 (fun y => z ⟨by omega, y.2⟩), fun z => hv.2 ⟨?_, z.2⟩⟩
                            rcases Nat.lt_or_ge w k with r | r
                            · exact r
                            · have e : w = k := by omega
                              exact absurd (e ▸ z.2) hnV) fn_1 i_1 (by omega)
                    ·
                      exact absurd c106 c120
                  ·
                    refine G_iload C 111 dX11_hush_109 rfl rfl ?_
                    refine G_goto C 116 dX11_hush_111 rfl ?_
                    refine G_istore (L' := [some (.ref (e_ad E 0)), some (.int c), some (.int t), some (.int q), some (.int x31), some (.int y), some (.int fe), some (.int y), some (.int 1), some (.int x99)]) C 118 dX11_hush_116 rfl (Nat.le_of_ble_eq_true rfl) rfl rfl ?_
                    refine G_iload C 120 dX11_hush_118 rfl rfl ?_
                    refine G_if_eq C 131 123 dX11_hush_120 rfl rfl (fun c120 => ?_) (fun c120 => ?_)
                    ·
                      exact absurd c120 c106
                    ·
                      refine G_iload C 125 dX11_hush_123 rfl rfl ?_
                      refine G_calli 128 (G_runS C Kc_X11_onesOf KS_X11_82 (by omega) (c_X11_onesOf 0 y s99) rfl rfl (Nat.le_of_ble_eq_true rfl) rfl dX11_hush_125) rfl (fun x125 s125 h125 => ?_)
                      obtain ⟨es125, h125⟩ := h125
                      have es125 := es125.symm
                      subst es125
                      refine G_goto C 133 dX11_hush_128 rfl ?_
                      refine G_istore (L' := [some (.ref (e_ad E 0)), some (.int c), some (.int t), some (.int q), some (.int x31), some (.int y), some (.int x125), some (.int y), some (.int 1), some (.int x99)]) C 135 dX11_hush_133 rfl (Nat.le_of_ble_eq_true rfl) rfl rfl ?_
                      refine G_iinc (w := 1) C 138 dX11_hush_135 rfl rfl rfl rfl (fun x135 ex135 => ?_)
                      have Nx135 : x135 = nI (k + 1) := g_addN ex135 Ey rfl
                      show GW SM E _ 138 [some (.ref (e_ad E 0)), some (.int c), some (.int t), some (.int q), some (.int x31), some (.int y), some (.int x125), some (.int x135), some (.int 1), some (.int x99)] [] s99
                      refine G_goto C 45 dX11_hush_138 rfl ?_
                      refine G_drop (L' := [some (.ref (e_ad E 0)), some (.int c), some (.int t), some (.int q), some (.int x31), some (.int y), some (.int x125), some (.int x135), none, none]) ⟨rfl, rfl, rfl, rfl, rfl, rfl, rfl, rfl, trivial⟩ ?_
                      exact ih45 (k + 1) y x125 x135 s99 (g_cn (a := (k + 1)) Nx135 (by first | rfl | omega | (simp only [List.length_cons, List.length_drop]; done) | (simp only [List.length_cons, List.length_drop]; omega))) (by omega) (by
                            have hb := hu_best hn6 hxn ew (by omega) (by omega) (hV.mp c106)
                            have hnw : ¬ (w < k ∧ x_hV TX P c ut n (nI w)) := fun z => absurd (c69.symm.trans (hv.2 z).1).symm (nI_nm1 (by omega))
                            have e : k = w := by
                              apply Classical.byContradiction
                              intro z
                              exact hnw ⟨by omega, hb.1⟩
                            subst e
                            exact ⟨fun z => absurd ⟨by omega, hb.1⟩ z, fun _ => ⟨Ey, by rw [h125, Ey]⟩⟩) fn_1 i_1 (by omega)
                ·
                  refine G_iload C 74 dX11_hush_72 rfl rfl ?_
                  refine G_calli 77 (G_runS C Kc_X11_onesOf KS_X11_82 (by omega) (c_X11_onesOf 0 y sl45) rfl rfl (Nat.le_of_ble_eq_true rfl) rfl dX11_hush_74) rfl (fun x74 s74 h74 => ?_)
                  obtain ⟨es74, h74⟩ := h74
                  have es74 := es74.symm
                  subst es74
                  refine G_iload C 79 dX11_hush_77 rfl rfl ?_
                  refine G_icmp_ge C 86 82 dX11_hush_79 rfl rfl (fun c79 => ?_) (fun c79 => ?_)
                  ·
                    refine G_iconst (v := 0) C 87 dX11_hush_86 rfl rfl ?_
                    refine G_istore (L' := [some (.ref (e_ad E 0)), some (.int c), some (.int t), some (.int q), some (.int x31), some (.int be), some (.int fe), some (.int y), some (.int 0), none]) C 89 dX11_hush_87 rfl (Nat.le_of_ble_eq_true rfl) rfl rfl ?_
                    refine G_iload C 91 dX11_hush_89 rfl rfl ?_
                    refine G_if_eq C 135 94 dX11_hush_91 rfl rfl (fun _ => ?_) (fun c => absurd c (by decide))
                    refine G_iinc (w := 1) C 138 dX11_hush_135 rfl rfl rfl rfl (fun x135 ex135 => ?_)
                    have Nx135 : x135 = nI (k + 1) := g_addN ex135 Ey rfl
                    show GW SM E _ 138 [some (.ref (e_ad E 0)), some (.int c), some (.int t), some (.int q), some (.int x31), some (.int be), some (.int fe), some (.int x135), some (.int 0), none] [] sl45
                    refine G_goto C 45 dX11_hush_138 rfl ?_
                    refine G_drop (L' := [some (.ref (e_ad E 0)), some (.int c), some (.int t), some (.int q), some (.int x31), some (.int be), some (.int fe), some (.int x135), none, none]) ⟨rfl, rfl, rfl, rfl, rfl, rfl, rfl, rfl, trivial⟩ ?_
                    exact ih45 (k + 1) be fe x135 sl45 (g_cn (a := (k + 1)) Nx135 (by first | rfl | omega | (simp only [List.length_cons, List.length_drop]; done) | (simp only [List.length_cons, List.length_drop]; omega))) (by omega) (by
                          have hin : w < k ∧ x_hV TX P c ut n (nI w) := Classical.byContradiction (fun z => c69 (hv.1 z).1)
                          refine ⟨fun z => absurd ⟨by omega, hin.2⟩ z, fun _ => hv.2 hin⟩) fnl45 il45 (by omega)
                  ·
                    refine G_iconst (v := 1) C 83 dX11_hush_82 rfl rfl ?_
                    refine G_goto C 87 dX11_hush_83 rfl ?_
                    refine G_istore (L' := [some (.ref (e_ad E 0)), some (.int c), some (.int t), some (.int q), some (.int x31), some (.int be), some (.int fe), some (.int y), some (.int 1), none]) C 89 dX11_hush_87 rfl (Nat.le_of_ble_eq_true rfl) rfl rfl ?_
                    refine G_iload C 91 dX11_hush_89 rfl rfl ?_
                    refine G_if_eq C 135 94 dX11_hush_91 rfl rfl (fun c => absurd c (by decide)) (fun _ => ?_)
                    refine G_aload_n (i := 0) C 95 dX11_hush_94 rfl rfl rfl ?_
                    refine G_iload_n (i := 1) C 96 dX11_hush_95 rfl rfl rfl ?_
                    refine G_iload_n (i := 2) C 97 dX11_hush_96 rfl rfl rfl ?_
                    refine G_iload C 99 dX11_hush_97 rfl rfl ?_
                    refine G_calli 102 (G_runV C Kc_X11_mayHushed KV_X11_233 (by omega) (by decide) (eM _ _ _) rfl (c_X11_mayHushed 0 TX nT n l P sl45 il45 c t ut eut (by omega) y) rfl rfl rfl (Nat.le_of_ble_eq_true rfl) rfl dX11_hush_99) rfl (fun x99 s99 h99 => ?_)
                    have fn_1 : Qn s s99 := Qn.tr fnl45 (h99.1.KR)
                    have i_1 : mI TX nT n l P s99 := h99.2.1
                    have hV : ¬ x99 = 0 ↔ x_hV TX P c ut n (nI k) := by rw [h99.2.2, Ey]; exact Iff.rfl
                    refine G_istore (L' := [some (.ref (e_ad E 0)), some (.int c), some (.int t), some (.int q), some (.int x31), some (.int be), some (.int fe), some (.int y), some (.int 1), some (.int x99)]) C 104 dX11_hush_102 rfl (Nat.le_of_ble_eq_true rfl) rfl rfl ?_
                    refine G_iload C 106 dX11_hush_104 rfl rfl ?_
                    refine G_if_eq C 114 109 dX11_hush_106 rfl rfl (fun c106 => ?_) (fun c106 => ?_)
                    ·
                      refine G_iload C 116 dX11_hush_114 rfl rfl ?_
                      refine G_istore (L' := [some (.ref (e_ad E 0)), some (.int c), some (.int t), some (.int q), some (.int x31), some (.int be), some (.int fe), some (.int y), some (.int 1), some (.int x99)]) C 118 dX11_hush_116 rfl (Nat.le_of_ble_eq_true rfl) rfl rfl ?_
                      refine G_iload C 120 dX11_hush_118 rfl rfl ?_
                      refine G_if_eq C 131 123 dX11_hush_120 rfl rfl (fun c120 => ?_) (fun c120 => ?_)
                      ·
                        refine G_iload C 133 dX11_hush_131 rfl rfl ?_
                        refine G_istore (L' := [some (.ref (e_ad E 0)), some (.int c), some (.int t), some (.int q), some (.int x31), some (.int be), some (.int fe), some (.int y), some (.int 1), some (.int x99)]) C 135 dX11_hush_133 rfl (Nat.le_of_ble_eq_true rfl) rfl rfl ?_
                        refine G_iinc (w := 1) C 138 dX11_hush_135 rfl rfl rfl rfl (fun x135 ex135 => ?_)
                        have Nx135 : x135 = nI (k + 1) := g_addN ex135 Ey rfl
                        show GW SM E _ 138 [some (.ref (e_ad E 0)), some (.int c), some (.int t), some (.int q), some (.int x31), some (.int be), some (.int fe), some (.int x135), some (.int 1), some (.int x99)] [] s99
                        refine G_goto C 45 dX11_hush_138 rfl ?_
                        refine G_drop (L' := [some (.ref (e_ad E 0)), some (.int c), some (.int t), some (.int q), some (.int x31), some (.int be), some (.int fe), some (.int x135), none, none]) ⟨rfl, rfl, rfl, rfl, rfl, rfl, rfl, rfl, trivial⟩ ?_
                        exact ih45 (k + 1) be fe x135 s99 (g_cn (a := (k + 1)) Nx135 (by first | rfl | omega | (simp only [List.length_cons, List.length_drop]; done) | (simp only [List.length_cons, List.length_drop]; omega))) (by omega) (by
                              have hnV : ¬ x_hV TX P c ut n (nI k) := fun z => hV.mpr z c106
                              refine ⟨fun z => hv.1 (fun y => z ⟨by omega, y.2⟩), fun z => hv.2 ⟨?_, z.2⟩⟩
                              rcases Nat.lt_or_ge w k with r | r
                              · exact r
                              · have e : w = k := by omega
                                exact absurd (e ▸ z.2) hnV) fn_1 i_1 (by omega)
                      ·
                        exact absurd c106 c120
                    ·
                      refine G_iload C 111 dX11_hush_109 rfl rfl ?_
                      refine G_goto C 116 dX11_hush_111 rfl ?_
                      refine G_istore (L' := [some (.ref (e_ad E 0)), some (.int c), some (.int t), some (.int q), some (.int x31), some (.int y), some (.int fe), some (.int y), some (.int 1), some (.int x99)]) C 118 dX11_hush_116 rfl (Nat.le_of_ble_eq_true rfl) rfl rfl ?_
                      refine G_iload C 120 dX11_hush_118 rfl rfl ?_
                      refine G_if_eq C 131 123 dX11_hush_120 rfl rfl (fun c120 => ?_) (fun c120 => ?_)
                      ·
                        exact absurd c120 c106
                      ·
                        refine G_iload C 125 dX11_hush_123 rfl rfl ?_
                        refine G_calli 128 (G_runS C Kc_X11_onesOf KS_X11_82 (by omega) (c_X11_onesOf 0 y s99) rfl rfl (Nat.le_of_ble_eq_true rfl) rfl dX11_hush_125) rfl (fun x125 s125 h125 => ?_)
                        obtain ⟨es125, h125⟩ := h125
                        have es125 := es125.symm
                        subst es125
                        refine G_goto C 133 dX11_hush_128 rfl ?_
                        refine G_istore (L' := [some (.ref (e_ad E 0)), some (.int c), some (.int t), some (.int q), some (.int x31), some (.int y), some (.int x125), some (.int y), some (.int 1), some (.int x99)]) C 135 dX11_hush_133 rfl (Nat.le_of_ble_eq_true rfl) rfl rfl ?_
                        refine G_iinc (w := 1) C 138 dX11_hush_135 rfl rfl rfl rfl (fun x135 ex135 => ?_)
                        have Nx135 : x135 = nI (k + 1) := g_addN ex135 Ey rfl
                        show GW SM E _ 138 [some (.ref (e_ad E 0)), some (.int c), some (.int t), some (.int q), some (.int x31), some (.int y), some (.int x125), some (.int x135), some (.int 1), some (.int x99)] [] s99
                        refine G_goto C 45 dX11_hush_138 rfl ?_
                        refine G_drop (L' := [some (.ref (e_ad E 0)), some (.int c), some (.int t), some (.int q), some (.int x31), some (.int y), some (.int x125), some (.int x135), none, none]) ⟨rfl, rfl, rfl, rfl, rfl, rfl, rfl, rfl, trivial⟩ ?_
                        exact ih45 (k + 1) y x125 x135 s99 (g_cn (a := (k + 1)) Nx135 (by first | rfl | omega | (simp only [List.length_cons, List.length_drop]; done) | (simp only [List.length_cons, List.length_drop]; omega))) (by omega) (by
                              have hb := hu_best hn6 hxn ew (by omega) (by omega) (hV.mp c106)
                              exfalso
                              have hin : w < k ∧ x_hV TX P c ut n (nI w) := Classical.byContradiction (fun z => c69 (hv.1 z).1)
                              have c79b := c79
                              rw [h74, (hv.2 hin).2, Ey] at c79b
                              rcases hb.2.2 with q | q
                              · omega
                              · exact Int32.lt_irrefl (Int32.lt_trans q c79b)) fn_1 i_1 (by omega)
        exact L45 (N + 1) 0 (-1) (-1) 0 s (g_cn (a := 0) rfl (by first | rfl | omega)) (by omega) (⟨fun _ => ⟨rfl, rfl⟩, fun z => absurd z.1 (by omega)⟩) fn i (by omega)
      ·
        have k23 := h20.symm.trans c23
        refine G_bipush (v := (-7)) C 28 dX11_hush_26 rfl rfl ?_
        exact G_iret C dX11_hush_28 (⟨⟨nT, n, l, hR⟩, by unfold s_hush; rw [if_neg k4, if_neg k14, if_pos k23]⟩)
  ·
    have k4 := h1.symm.trans c4
    refine G_bipush (v := (-5)) C 9 dX11_hush_7 rfl rfl ?_
    exact G_iret C dX11_hush_9 (⟨⟨nT, n, l, hR⟩, by unfold s_hush; rw [if_pos k4]⟩)
theorem dX11_toldBy_0 : decode cX11_toldBy 0 = .ok (.iconst 0, 1) := by decide +kernel
theorem dX11_toldBy_1 : decode cX11_toldBy 1 = .ok (.istore_n 2, 1) := by decide +kernel
theorem dX11_toldBy_2 : decode cX11_toldBy 2 = .ok (.iconst 0, 1) := by decide +kernel
theorem dX11_toldBy_3 : decode cX11_toldBy 3 = .ok (.istore_n 3, 1) := by decide +kernel
theorem dX11_toldBy_4 : decode cX11_toldBy 4 = .ok (.iload_n 3, 1) := by decide +kernel
theorem dX11_toldBy_5 : decode cX11_toldBy 5 = .ok (.bipush 9, 2) := by decide +kernel
theorem dX11_toldBy_7 : decode cX11_toldBy 7 = .ok (.if_icmp .ge 31, 3) := by decide +kernel
theorem dX11_toldBy_10 : decode cX11_toldBy 10 = .ok (.iload_n 2, 1) := by decide +kernel
theorem dX11_toldBy_11 : decode cX11_toldBy 11 = .ok (.iload_n 1, 1) := by decide +kernel
theorem dX11_toldBy_12 : decode cX11_toldBy 12 = .ok (.iload_n 3, 1) := by decide +kernel
theorem dX11_toldBy_13 : decode cX11_toldBy 13 = .ok (.ishr, 1) := by decide +kernel
theorem dX11_toldBy_14 : decode cX11_toldBy 14 = .ok (.iconst 1, 1) := by decide +kernel
theorem dX11_toldBy_15 : decode cX11_toldBy 15 = .ok (.iand, 1) := by decide +kernel
theorem dX11_toldBy_16 : decode cX11_toldBy 16 = .ok (.iconst 1, 1) := by decide +kernel
theorem dX11_toldBy_17 : decode cX11_toldBy 17 = .ok (.if_icmp .ne 12, 3) := by decide +kernel
theorem dX11_toldBy_20 : decode cX11_toldBy 20 = .ok (.aload_n 0, 1) := by decide +kernel
theorem dX11_toldBy_21 : decode cX11_toldBy 21 = .ok (.getfield 64, 3) := by decide +kernel
theorem dX11_toldBy_24 : decode cX11_toldBy 24 = .ok (.iload_n 3, 1) := by decide +kernel
theorem dX11_toldBy_25 : decode cX11_toldBy 25 = .ok (.iaload, 1) := by decide +kernel
theorem dX11_toldBy_26 : decode cX11_toldBy 26 = .ok (.goto 4, 3) := by decide +kernel
theorem dX11_toldBy_29 : decode cX11_toldBy 29 = .ok (.iconst 0, 1) := by decide +kernel
theorem dX11_toldBy_30 : decode cX11_toldBy 30 = .ok (.ior, 1) := by decide +kernel
theorem dX11_toldBy_31 : decode cX11_toldBy 31 = .ok (.istore_n 2, 1) := by decide +kernel
theorem dX11_toldBy_32 : decode cX11_toldBy 32 = .ok (.iinc 3 1, 3) := by decide +kernel
theorem dX11_toldBy_35 : decode cX11_toldBy 35 = .ok (.goto (-31), 3) := by decide +kernel
theorem dX11_toldBy_38 : decode cX11_toldBy 38 = .ok (.iload_n 2, 1) := by decide +kernel
theorem dX11_toldBy_39 : decode cX11_toldBy 39 = .ok (.ireturn, 1) := by decide +kernel
set_option maxHeartbeats 4000000 in
set_option maxRecDepth 100000 in
theorem c_X11_toldBy (d : Nat) (T : Nat → Int32) (s : gS) (hT : ∀ j, j < 9 → s 19 j = T j) (v : Int32) : gMt SM yX11_toldBy cX11_toldBy 4 (some .int) (d + 1) (fun ad => [.ref (ad 0), .int v]) s (gQi SM (fun r s' => s' = s ∧ r = x_tb T v 9)) := by
  refine gMt_of SM_ok (by decide +kernel) (fun ad => [some (.ref (ad 0)), some (.int v), none, none]) (fun _ => rfl) (fun _ => rfl) (fun _ => Nat.le_of_ble_eq_true rfl) (fun E C0 => ?_)
  have C : gCx SM E RX11 cX11_toldBy 4 (some .int) (d + 1) := C0
  refine G_iconst (v := 0) C 1 dX11_toldBy_0 rfl rfl ?_
  refine G_istore_n (i := 2) (L' := [some (.ref (e_ad E 0)), some (.int v), some (.int 0), none]) C 2 dX11_toldBy_1 rfl rfl (Nat.le_of_ble_eq_true rfl) rfl rfl ?_
  refine G_iconst (v := 0) C 3 dX11_toldBy_2 rfl rfl ?_
  refine G_istore_n (i := 3) (L' := [some (.ref (e_ad E 0)), some (.int v), some (.int 0), some (.int 0)]) C 4 dX11_toldBy_3 rfl rfl (Nat.le_of_ble_eq_true rfl) rfl rfl ?_
  have L4 : ∀ (f4 : Nat) (k : Nat) (a y : Int32) (Ey : y = nI k) (hk : k ≤ 9) (ha : a = x_tb T v k), 9 < k + f4 → GW SM E (gFin SM E (gQi SM (fun r s' => s' = s ∧ r = x_tb T v 9))) 4 [some (.ref (e_ad E 0)), some (.int v), some (.int a), some (.int y)] [] s := by
    intro f4
    induction f4 with
    | zero =>
      intro k a y Ey hk ha hf4
      exact absurd hf4 (by omega)
    | succ f4 ih4 =>
      intro k a y Ey hk ha hf4
      refine G_iload_n (i := 3) C 5 dX11_toldBy_4 rfl rfl rfl ?_
      refine G_bipush (v := 9) C 7 dX11_toldBy_5 rfl rfl ?_
      refine G_icmp_ge C 38 10 dX11_toldBy_7 rfl rfl (fun c7 => ?_) (fun c7 => ?_)
      ·
        have n7 : ¬ k < 9 := fun h => c7 ((g_ltN (a := k) (b := 9) (hx := Ey) (hy := rfl) (by omega) (by omega)).mpr h)
        refine G_iload_n (i := 2) C 39 dX11_toldBy_38 rfl rfl rfl ?_
        exact G_iret C dX11_toldBy_39 (⟨rfl, by rw [ha, show k = 9 by omega]⟩)
      ·
        have n7 : k < 9 := (g_ltN (a := k) (b := 9) (hx := Ey) (hy := rfl) (by omega) (by omega)).mp c7
        refine G_iload_n (i := 2) C 11 dX11_toldBy_10 rfl rfl rfl ?_
        refine G_iload_n (i := 1) C 12 dX11_toldBy_11 rfl rfl rfl ?_
        refine G_iload_n (i := 3) C 13 dX11_toldBy_12 rfl rfl rfl ?_
        refine G_ishr C 14 dX11_toldBy_13 rfl (fun x13 ex13 => ?_)
        refine G_iconst (v := 1) C 15 dX11_toldBy_14 rfl rfl ?_
        refine G_iand C 16 dX11_toldBy_15 rfl (fun x15 ex15 => ?_)
        refine G_iconst (v := 1) C 17 dX11_toldBy_16 rfl rfl ?_
        refine G_icmp_ne C 29 20 dX11_toldBy_17 rfl rfl (fun c17 => ?_) (fun c17 => ?_)
        ·
          refine G_iconst (v := 0) C 30 dX11_toldBy_29 rfl rfl ?_
          refine G_ior C 31 dX11_toldBy_30 rfl (fun x30 ex30 => ?_)
          refine G_istore_n (i := 2) (L' := [some (.ref (e_ad E 0)), some (.int v), some (.int x30), some (.int y)]) C 32 dX11_toldBy_31 rfl rfl (Nat.le_of_ble_eq_true rfl) rfl rfl ?_
          refine G_iinc (w := 1) C 35 dX11_toldBy_32 rfl rfl rfl rfl (fun x32 ex32 => ?_)
          have Nx32 : x32 = nI (k + 1) := g_addN ex32 Ey rfl
          show GW SM E _ 35 [some (.ref (e_ad E 0)), some (.int v), some (.int x30), some (.int x32)] [] s
          refine G_goto C 4 dX11_toldBy_35 rfl ?_
          exact ih4 (k + 1) x30 x32  (g_cn (a := (k + 1)) Nx32 (by first | rfl | omega | (simp only [List.length_cons, List.length_drop]; done) | (simp only [List.length_cons, List.length_drop]; omega))) (by omega) (by rw [x_tb, if_pos (x_bitN1 (by unfold x_bit; rw [← Ey, ← ex13, ← ex15]; exact c17)), ex30, y_or0, ha]) (by omega)
        ·
          refine G_aload_n (i := 0) C 21 dX11_toldBy_20 rfl rfl rfl ?_
          refine X11_64g C 24 dX11_toldBy_21 rfl ?_
          refine G_iload_n (i := 3) C 25 dX11_toldBy_24 rfl rfl rfl ?_
          refine G_iald (n := 9) C 26 (by decide) (eMk (by decide) _ _ _) (k) Ey (by omega) (by decide) dX11_toldBy_25 rfl (fun x25 ex25 => ?_)
          have Sx25 : x25 = T k := ex25.trans (hT k (by omega))
          refine G_goto C 30 dX11_toldBy_26 rfl ?_
          refine G_ior C 31 dX11_toldBy_30 rfl (fun x30 ex30 => ?_)
          refine G_istore_n (i := 2) (L' := [some (.ref (e_ad E 0)), some (.int v), some (.int x30), some (.int y)]) C 32 dX11_toldBy_31 rfl rfl (Nat.le_of_ble_eq_true rfl) rfl rfl ?_
          refine G_iinc (w := 1) C 35 dX11_toldBy_32 rfl rfl rfl rfl (fun x32 ex32 => ?_)
          have Nx32 : x32 = nI (k + 1) := g_addN ex32 Ey rfl
          show GW SM E _ 35 [some (.ref (e_ad E 0)), some (.int v), some (.int x30), some (.int x32)] [] s
          refine G_goto C 4 dX11_toldBy_35 rfl ?_
          exact ih4 (k + 1) x30 x32  (g_cn (a := (k + 1)) Nx32 (by first | rfl | omega | (simp only [List.length_cons, List.length_drop]; done) | (simp only [List.length_cons, List.length_drop]; omega))) (by omega) (by rw [x_tb, if_neg (x_bit1N (by unfold x_bit; rw [← Ey, ← ex13, ← ex15]; exact c17)), ex30, Sx25, ha]) (by omega)
  exact L4 (9 + 1) 0 0 0  (g_cn (a := 0) rfl (by first | rfl | omega)) (by omega) (rfl) (by omega)
theorem dX11_round_0 : decode cX11_round 0 = .ok (.iload_n 1, 1) := by decide +kernel
theorem dX11_round_1 : decode cX11_round 1 = .ok (.iconst 0, 1) := by decide +kernel
theorem dX11_round_2 : decode cX11_round 2 = .ok (.iconst 2, 1) := by decide +kernel
theorem dX11_round_3 : decode cX11_round 3 = .ok (.invokestatic 78, 3) := by decide +kernel
theorem dX11_round_6 : decode cX11_round 6 = .ok (.ifCond .ne 6, 3) := by decide +kernel
theorem dX11_round_9 : decode cX11_round 9 = .ok (.bipush (-2), 2) := by decide +kernel
theorem dX11_round_11 : decode cX11_round 11 = .ok (.ireturn, 1) := by decide +kernel
theorem dX11_round_12 : decode cX11_round 12 = .ok (.iconst 0, 1) := by decide +kernel
theorem dX11_round_13 : decode cX11_round 13 = .ok (.istore_n 2, 1) := by decide +kernel
theorem dX11_round_14 : decode cX11_round 14 = .ok (.iload_n 2, 1) := by decide +kernel
theorem dX11_round_15 : decode cX11_round 15 = .ok (.bipush 9, 2) := by decide +kernel
theorem dX11_round_17 : decode cX11_round 17 = .ok (.if_icmp .ge 26, 3) := by decide +kernel
theorem dX11_round_20 : decode cX11_round 20 = .ok (.aload_n 0, 1) := by decide +kernel
theorem dX11_round_21 : decode cX11_round 21 = .ok (.getfield 64, 3) := by decide +kernel
theorem dX11_round_24 : decode cX11_round 24 = .ok (.iload_n 2, 1) := by decide +kernel
theorem dX11_round_25 : decode cX11_round 25 = .ok (.aload_n 0, 1) := by decide +kernel
theorem dX11_round_26 : decode cX11_round 26 = .ok (.iload_n 2, 1) := by decide +kernel
theorem dX11_round_27 : decode cX11_round 27 = .ok (.aload_n 0, 1) := by decide +kernel
theorem dX11_round_28 : decode cX11_round 28 = .ok (.getfield 19, 3) := by decide +kernel
theorem dX11_round_31 : decode cX11_round 31 = .ok (.iconst 2, 1) := by decide +kernel
theorem dX11_round_32 : decode cX11_round 32 = .ok (.iaload, 1) := by decide +kernel
theorem dX11_round_33 : decode cX11_round 33 = .ok (.invokevirtual 203, 3) := by decide +kernel
theorem dX11_round_36 : decode cX11_round 36 = .ok (.iastore, 1) := by decide +kernel
theorem dX11_round_37 : decode cX11_round 37 = .ok (.iinc 2 1, 3) := by decide +kernel
theorem dX11_round_40 : decode cX11_round 40 = .ok (.goto (-26), 3) := by decide +kernel
theorem dX11_round_43 : decode cX11_round 43 = .ok (.aload_n 0, 1) := by decide +kernel
theorem dX11_round_44 : decode cX11_round 44 = .ok (.sipush 511, 3) := by decide +kernel
theorem dX11_round_47 : decode cX11_round 47 = .ok (.invokevirtual 236, 3) := by decide +kernel
theorem dX11_round_50 : decode cX11_round 50 = .ok (.istore_n 2, 1) := by decide +kernel
theorem dX11_round_51 : decode cX11_round 51 = .ok (.iload_n 1, 1) := by decide +kernel
theorem dX11_round_52 : decode cX11_round 52 = .ok (.iconst 2, 1) := by decide +kernel
theorem dX11_round_53 : decode cX11_round 53 = .ok (.if_icmp .ne 14, 3) := by decide +kernel
theorem dX11_round_56 : decode cX11_round 56 = .ok (.aload_n 0, 1) := by decide +kernel
theorem dX11_round_57 : decode cX11_round 57 = .ok (.getfield 19, 3) := by decide +kernel
theorem dX11_round_60 : decode cX11_round 60 = .ok (.iconst 2, 1) := by decide +kernel
theorem dX11_round_61 : decode cX11_round 61 = .ok (.iaload, 1) := by decide +kernel
theorem dX11_round_62 : decode cX11_round 62 = .ok (.iload_n 2, 1) := by decide +kernel
theorem dX11_round_63 : decode cX11_round 63 = .ok (.iconst (-1), 1) := by decide +kernel
theorem dX11_round_64 : decode cX11_round 64 = .ok (.ixor, 1) := by decide +kernel
theorem dX11_round_65 : decode cX11_round 65 = .ok (.iand, 1) := by decide +kernel
theorem dX11_round_66 : decode cX11_round 66 = .ok (.ireturn, 1) := by decide +kernel
theorem dX11_round_67 : decode cX11_round 67 = .ok (.sipush 511, 3) := by decide +kernel
theorem dX11_round_70 : decode cX11_round 70 = .ok (.istore_n 3, 1) := by decide +kernel
theorem dX11_round_71 : decode cX11_round 71 = .ok (.bipush 9, 2) := by decide +kernel
theorem dX11_round_73 : decode cX11_round 73 = .ok (.istore 4, 2) := by decide +kernel
theorem dX11_round_75 : decode cX11_round 75 = .ok (.sipush 510, 3) := by decide +kernel
theorem dX11_round_78 : decode cX11_round 78 = .ok (.istore 5, 2) := by decide +kernel
theorem dX11_round_80 : decode cX11_round 80 = .ok (.iload 5, 2) := by decide +kernel
theorem dX11_round_82 : decode cX11_round 82 = .ok (.ifCond .lt 40, 3) := by decide +kernel
theorem dX11_round_85 : decode cX11_round 85 = .ok (.iload 5, 2) := by decide +kernel
theorem dX11_round_87 : decode cX11_round 87 = .ok (.invokestatic 82, 3) := by decide +kernel
theorem dX11_round_90 : decode cX11_round 90 = .ok (.istore 6, 2) := by decide +kernel
theorem dX11_round_92 : decode cX11_round 92 = .ok (.iload 6, 2) := by decide +kernel
theorem dX11_round_94 : decode cX11_round 94 = .ok (.iload 4, 2) := by decide +kernel
theorem dX11_round_96 : decode cX11_round 96 = .ok (.if_icmp .gt 20, 3) := by decide +kernel
theorem dX11_round_99 : decode cX11_round 99 = .ok (.aload_n 0, 1) := by decide +kernel
theorem dX11_round_100 : decode cX11_round 100 = .ok (.iload 5, 2) := by decide +kernel
theorem dX11_round_102 : decode cX11_round 102 = .ok (.invokevirtual 236, 3) := by decide +kernel
theorem dX11_round_105 : decode cX11_round 105 = .ok (.iload_n 2, 1) := by decide +kernel
theorem dX11_round_106 : decode cX11_round 106 = .ok (.if_icmp .ne 10, 3) := by decide +kernel
theorem dX11_round_109 : decode cX11_round 109 = .ok (.iload 5, 2) := by decide +kernel
theorem dX11_round_111 : decode cX11_round 111 = .ok (.istore_n 3, 1) := by decide +kernel
theorem dX11_round_112 : decode cX11_round 112 = .ok (.iload 6, 2) := by decide +kernel
theorem dX11_round_114 : decode cX11_round 114 = .ok (.istore 4, 2) := by decide +kernel
theorem dX11_round_116 : decode cX11_round 116 = .ok (.iinc 5 (-1), 3) := by decide +kernel
theorem dX11_round_119 : decode cX11_round 119 = .ok (.goto (-39), 3) := by decide +kernel
theorem dX11_round_122 : decode cX11_round 122 = .ok (.iload_n 1, 1) := by decide +kernel
theorem dX11_round_123 : decode cX11_round 123 = .ok (.ifCond .ne 7, 3) := by decide +kernel
theorem dX11_round_126 : decode cX11_round 126 = .ok (.iload_n 3, 1) := by decide +kernel
theorem dX11_round_127 : decode cX11_round 127 = .ok (.goto 5, 3) := by decide +kernel
theorem dX11_round_130 : decode cX11_round 130 = .ok (.iload 4, 2) := by decide +kernel
theorem dX11_round_132 : decode cX11_round 132 = .ok (.ireturn, 1) := by decide +kernel
set_option maxHeartbeats 4000000 in
set_option maxRecDepth 100000 in
theorem c_X11_round (d : Nat) (TX : gTX) (P B s : gS) (hR0 : RM TX P B s) (q : Int32) : gMt SM yX11_round cX11_round 7 (some .int) (d + 9) (fun ad => [.ref (ad 0), .int q]) s (gQi SM (fun r s' => RM TX P B s' ∧ r = s_round TX P q)) := by
  obtain ⟨nT, n, l, hR⟩ := hR0
  have hI := hR.1
  have hn6 : n ≤ 6 := hI.2.1.2.1
  have hl6 : l < 6 := mI_l6 hI
  have hxn : x_n P = n := x_nOf hI.2.1.1 hn6
  have hbI := hR.2.2
  have hnT6 : nT ≤ 6 := hI.2.1.2.2.2.2.1
  obtain ⟨tn0, htn0, etn0⟩ := hbI.2.1
  refine gMt_of SM_ok (by decide +kernel) (fun ad => [some (.ref (ad 0)), some (.int q), none, none, none, none, none]) (fun _ => rfl) (fun _ => rfl) (fun _ => Nat.le_of_ble_eq_true rfl) (fun E C0 => ?_)
  have C : gCx SM E RX11 cX11_round 7 (some .int) (d + 9) := C0
  have fn : Qn s s := Qn.rf
  have i : mI TX nT n l P s := hI
  refine G_iload_n (i := 1) C 1 dX11_round_0 rfl rfl rfl ?_
  refine G_iconst (v := 0) C 2 dX11_round_1 rfl rfl ?_
  refine G_iconst (v := 2) C 3 dX11_round_2 rfl rfl ?_
  refine G_calli 6 (G_runS C Kc_X11_in KS_X11_78 (by omega) (c_X11_in 0 q 0 2 s) rfl rfl (Nat.le_of_ble_eq_true rfl) rfl dX11_round_3) rfl (fun x3 s3 h3 => ?_)
  obtain ⟨es3, h3⟩ := h3
  have es3 := es3.symm
  subst es3
  refine G_if_ne C 12 9 dX11_round_6 rfl rfl (fun c6 => ?_) (fun c6 => ?_)
  ·
    have k6 := g_neT h3 c6
    refine G_iconst (v := 0) C 13 dX11_round_12 rfl rfl ?_
    refine G_istore_n (i := 2) (L' := [some (.ref (e_ad E 0)), some (.int q), some (.int 0), none, none, none, none]) C 14 dX11_round_13 rfl rfl (Nat.le_of_ble_eq_true rfl) rfl rfl ?_
    have L14 : ∀ (f14 : Nat) (k : Nat) (y : Int32) (sl14 : gS) (Ey : y = nI k) (hk : k ≤ 9) (hT0 : ∀ j, j < k → sl14 19 j = x_rT TX P j) (fnl14 : Qn s sl14) (il14 : mI TX nT n l P sl14), 9 < k + f14 → GW SM E (gFin SM E (gQi SM (fun r s' => RM TX P B s' ∧ r = s_round TX P q))) 14 [some (.ref (e_ad E 0)), some (.int q), some (.int y), none, none, none, none] [] sl14 := by
      intro f14
      induction f14 with
      | zero =>
        intro k y sl14 Ey hk hT0 fnl14 il14 hf14
        exact absurd hf14 (by omega)
      | succ f14 ih14 =>
        intro k y sl14 Ey hk hT0 fnl14 il14 hf14
        refine G_iload_n (i := 2) C 15 dX11_round_14 rfl rfl rfl ?_
        refine G_bipush (v := 9) C 17 dX11_round_15 rfl rfl ?_
        refine G_icmp_ge C 43 20 dX11_round_17 rfl rfl (fun c17 => ?_) (fun c17 => ?_)
        ·
          have n17 : ¬ k < 9 := fun h => c17 ((g_ltN (a := k) (b := 9) (hx := Ey) (hy := rfl) (by omega) (by omega)).mpr h)
          have hT : ∀ j, j < 9 → sl14 19 j = x_rT TX P j := fun j hj => hT0 j (by omega)
          refine G_aload_n (i := 0) C 44 dX11_round_43 rfl rfl rfl ?_
          refine G_sipush (v := 511) C 47 dX11_round_44 rfl rfl ?_
          refine G_calli 50 (G_runV C Kc_X11_toldBy KV_X11_236 (by omega) (by decide) (eM _ _ _) rfl (c_X11_toldBy 0 (x_rT TX P) sl14 hT 511) rfl rfl rfl (Nat.le_of_ble_eq_true rfl) rfl dX11_round_47) rfl (fun x47 s47 h47 => ?_)
          obtain ⟨es47, h47⟩ := h47
          have es47 := es47.symm
          subst es47
          have eA : x47 = x_rA TX P := h47
          refine G_istore_n (i := 2) (L' := [some (.ref (e_ad E 0)), some (.int q), some (.int x47), none, none, none, none]) C 51 dX11_round_50 rfl rfl (Nat.le_of_ble_eq_true rfl) rfl rfl ?_
          refine G_iload_n (i := 1) C 52 dX11_round_51 rfl rfl rfl ?_
          refine G_iconst (v := 2) C 53 dX11_round_52 rfl rfl ?_
          refine G_icmp_ne C 67 56 dX11_round_53 rfl rfl (fun c53 => ?_) (fun c53 => ?_)
          ·
            refine G_sipush (v := 511) C 70 dX11_round_67 rfl rfl ?_
            refine G_istore_n (i := 3) (L' := [some (.ref (e_ad E 0)), some (.int q), some (.int x47), some (.int 511), none, none, none]) C 71 dX11_round_70 rfl rfl (Nat.le_of_ble_eq_true rfl) rfl rfl ?_
            refine G_bipush (v := 9) C 73 dX11_round_71 rfl rfl ?_
            refine G_istore (L' := [some (.ref (e_ad E 0)), some (.int q), some (.int x47), some (.int 511), some (.int 9), none, none]) C 75 dX11_round_73 rfl (Nat.le_of_ble_eq_true rfl) rfl rfl ?_
            refine G_sipush (v := 510) C 78 dX11_round_75 rfl rfl ?_
            refine G_istore (L' := [some (.ref (e_ad E 0)), some (.int q), some (.int x47), some (.int 511), some (.int 9), some (.int 510), none]) C 80 dX11_round_78 rfl (Nat.le_of_ble_eq_true rfl) rfl rfl ?_
            have L80 : ∀ (f80 : Nat) (j : Nat) (be fe y : Int32) (Ebe : be = nI ((x_rd (x_rT TX P) x47 j))) (hj : j ≤ 511) (hy : y = nI 510 - nI j) (hfe : fe = x_cnt (nI (x_rd (x_rT TX P) x47 j))), 511 < j + f80 → GW SM E (gFin SM E (gQi SM (fun r s' => RM TX P B s' ∧ r = s_round TX P q))) 80 [some (.ref (e_ad E 0)), some (.int q), some (.int x47), some (.int be), some (.int fe), some (.int y), none] [] sl14 := by
              intro f80
              induction f80 with
              | zero =>
                intro j be fe y Ebe hj hy hfe hf80
                exact absurd hf80 (by omega)
              | succ f80 ih80 =>
                intro j be fe y Ebe hj hy hfe hf80
                refine G_iload C 82 dX11_round_80 rfl rfl ?_
                refine G_if_lt C 122 85 dX11_round_82 rfl rfl (fun c82 => ?_) (fun c82 => ?_)
                ·
                  have e511 : j = 511 := by
                    apply Classical.byContradiction
                    intro z
                    rw [hy, pk_sub (by omega)] at c82
                    exact nI_pos (by omega) c82
                  refine G_iload_n (i := 1) C 123 dX11_round_122 rfl rfl rfl ?_
                  refine G_if_ne C 130 126 dX11_round_123 rfl rfl (fun c123 => ?_) (fun c123 => ?_)
                  ·
                    refine G_iload C 132 dX11_round_130 rfl rfl ?_
                    exact G_iret C dX11_round_132 (⟨RM_i hR il14 fnl14, by
                        unfold s_round; rw [if_neg k6, if_neg c53, if_neg c123, ← eA, ← e511]; exact hfe⟩)
                  ·
                    refine G_iload_n (i := 3) C 127 dX11_round_126 rfl rfl rfl ?_
                    refine G_goto C 132 dX11_round_127 rfl ?_
                    exact G_iret C dX11_round_132 (⟨RM_i hR il14 fnl14, by
                        unfold s_round; rw [if_neg k6, if_neg c53, if_pos c123, ← eA, ← e511]; exact Ebe⟩)
                ·
                  have hj1 : j ≤ 510 := by
                    apply Classical.byContradiction
                    intro z
                    exact c82 (by rw [hy]; exact pk_sneg (by omega) (by omega))
                  have Ey : y = nI (510 - j) := by rw [hy, pk_sub hj1]
                  refine G_iload C 87 dX11_round_85 rfl rfl ?_
                  refine G_calli 90 (G_runS C Kc_X11_onesOf KS_X11_82 (by omega) (c_X11_onesOf 0 y sl14) rfl rfl (Nat.le_of_ble_eq_true rfl) rfl dX11_round_87) rfl (fun x87 s87 h87 => ?_)
                  obtain ⟨es87, h87⟩ := h87
                  have es87 := es87.symm
                  subst es87
                  refine G_istore (L' := [some (.ref (e_ad E 0)), some (.int q), some (.int x47), some (.int be), some (.int fe), some (.int y), some (.int x87)]) C 92 dX11_round_90 rfl (Nat.le_of_ble_eq_true rfl) rfl rfl ?_
                  refine G_iload C 94 dX11_round_92 rfl rfl ?_
                  refine G_iload C 96 dX11_round_94 rfl rfl ?_
                  refine G_icmp_gt C 116 99 dX11_round_96 rfl rfl (fun c96 => ?_) (fun c96 => ?_)
                  ·
                    have hrd : x_rd (x_rT TX P) x47 (j + 1) = x_rd (x_rT TX P) x47 j := by rw [x_rd, if_pos (by have z := c96; rw [hfe, h87, Ey] at z; exact z)]
                    refine G_iinc (w := (-1)) C 119 dX11_round_116 rfl rfl rfl rfl (fun x116 ex116 => ?_)
                    show GW SM E _ 119 [some (.ref (e_ad E 0)), some (.int q), some (.int x47), some (.int be), some (.int fe), some (.int x116), some (.int x87)] [] sl14
                    refine G_goto C 80 dX11_round_119 rfl ?_
                    refine G_drop (L' := [some (.ref (e_ad E 0)), some (.int q), some (.int x47), some (.int be), some (.int fe), some (.int x116), none]) ⟨rfl, rfl, rfl, rfl, rfl, rfl, trivial⟩ ?_
                    exact ih80 (j + 1) be fe x116  (g_cn (a := (x_rd (x_rT TX P) x47 j)) Ebe (by first | rfl | omega | (simp only [List.length_cons, List.length_drop]; done) | (simp only [List.length_cons, List.length_drop]; omega))) (by omega) (g_cd hy ex116) (by rw [hrd]; exact hfe) (by omega)
                  ·
                    refine G_aload_n (i := 0) C 100 dX11_round_99 rfl rfl rfl ?_
                    refine G_iload C 102 dX11_round_100 rfl rfl ?_
                    refine G_calli 105 (G_runV C Kc_X11_toldBy KV_X11_236 (by omega) (by decide) (eM _ _ _) rfl (c_X11_toldBy 0 (x_rT TX P) sl14 hT y) rfl rfl rfl (Nat.le_of_ble_eq_true rfl) rfl dX11_round_102) rfl (fun x102 s102 h102 => ?_)
                    obtain ⟨es102, h102⟩ := h102
                    have es102 := es102.symm
                    subst es102
                    refine G_iload_n (i := 2) C 106 dX11_round_105 rfl rfl rfl ?_
                    refine G_icmp_ne C 116 109 dX11_round_106 rfl rfl (fun c106 => ?_) (fun c106 => ?_)
                    ·
                      have hrd : x_rd (x_rT TX P) x47 (j + 1) = x_rd (x_rT TX P) x47 j := by rw [x_rd, if_neg (by have z := c96; rw [hfe, h87, Ey] at z; exact z), if_neg (by rw [← Ey, ← h102]; exact c106)]
                      refine G_iinc (w := (-1)) C 119 dX11_round_116 rfl rfl rfl rfl (fun x116 ex116 => ?_)
                      show GW SM E _ 119 [some (.ref (e_ad E 0)), some (.int q), some (.int x47), some (.int be), some (.int fe), some (.int x116), some (.int x87)] [] sl14
                      refine G_goto C 80 dX11_round_119 rfl ?_
                      refine G_drop (L' := [some (.ref (e_ad E 0)), some (.int q), some (.int x47), some (.int be), some (.int fe), some (.int x116), none]) ⟨rfl, rfl, rfl, rfl, rfl, rfl, trivial⟩ ?_
                      exact ih80 (j + 1) be fe x116  (g_cn (a := (x_rd (x_rT TX P) x47 j)) Ebe (by first | rfl | omega | (simp only [List.length_cons, List.length_drop]; done) | (simp only [List.length_cons, List.length_drop]; omega))) (by omega) (g_cd hy ex116) (by rw [hrd]; exact hfe) (by omega)
                    ·
                      refine G_iload C 111 dX11_round_109 rfl rfl ?_
                      refine G_istore_n (i := 3) (L' := [some (.ref (e_ad E 0)), some (.int q), some (.int x47), some (.int y), some (.int fe), some (.int y), some (.int x87)]) C 112 dX11_round_111 rfl rfl (Nat.le_of_ble_eq_true rfl) rfl rfl ?_
                      refine G_iload C 114 dX11_round_112 rfl rfl ?_
                      refine G_istore (L' := [some (.ref (e_ad E 0)), some (.int q), some (.int x47), some (.int y), some (.int x87), some (.int y), some (.int x87)]) C 116 dX11_round_114 rfl (Nat.le_of_ble_eq_true rfl) rfl rfl ?_
                      have hrd : x_rd (x_rT TX P) x47 (j + 1) = 510 - j := by rw [x_rd, if_neg (by have z := c96; rw [hfe, h87, Ey] at z; exact z), if_pos (by rw [← Ey, ← h102]; exact c106)]
                      refine G_iinc (w := (-1)) C 119 dX11_round_116 rfl rfl rfl rfl (fun x116 ex116 => ?_)
                      show GW SM E _ 119 [some (.ref (e_ad E 0)), some (.int q), some (.int x47), some (.int y), some (.int x87), some (.int x116), some (.int x87)] [] sl14
                      refine G_goto C 80 dX11_round_119 rfl ?_
                      refine G_drop (L' := [some (.ref (e_ad E 0)), some (.int q), some (.int x47), some (.int y), some (.int x87), some (.int x116), none]) ⟨rfl, rfl, rfl, rfl, rfl, rfl, trivial⟩ ?_
                      exact ih80 (j + 1) y x87 x116  (g_cn (a := (510 - j)) Ey (by first | rfl | omega | (simp only [List.length_cons, List.length_drop]; done) | (simp only [List.length_cons, List.length_drop]; omega))) (by omega) (g_cd hy ex116) (by rw [hrd]; exact h87.trans (congrArg x_cnt Ey)) (by omega)
            exact L80 (511 + 1) 0 511 9 510  (g_cn (a := 511) rfl (by first | rfl | omega)) (by omega) (by decide) ((show (9 : Int32) = x_cnt (nI 511) by decide +kernel)) (by omega)
          ·
            refine G_aload_n (i := 0) C 57 dX11_round_56 rfl rfl rfl ?_
            refine X11_19g C 60 dX11_round_57 rfl ?_
            refine G_iconst (v := 2) C 61 dX11_round_60 rfl rfl ?_
            refine G_iald (n := 13) C 62 (by decide) (eMk (by decide) _ _ _) (2) rfl (by omega) (by decide) dX11_round_61 rfl (fun x61 ex61 => ?_)
            have Sx61 : x61 = P 0 2 := ex61.trans (mI_v il14 0 2)
            obtain ⟨mx61, hmx61, emx61⟩ := il14.2.1.2.2.2.2.2.2.2.1
            refine G_iload_n (i := 2) C 63 dX11_round_62 rfl rfl rfl ?_
            refine G_iconst (v := (-1)) C 64 dX11_round_63 rfl rfl ?_
            refine G_ixor C 65 dX11_round_64 rfl (fun x64 ex64 => ?_)
            refine G_iand C 66 dX11_round_65 rfl (fun x65 ex65 => ?_)
            exact G_iret C dX11_round_66 (⟨RM_i hR il14 fnl14, by unfold s_round; rw [if_neg k6, if_pos c53, ← eA, ← Sx61, ← ex64, ← ex65]⟩)
        ·
          have n17 : k < 9 := (g_ltN (a := k) (b := 9) (hx := Ey) (hy := rfl) (by omega) (by omega)).mp c17
          refine G_aload_n (i := 0) C 21 dX11_round_20 rfl rfl rfl ?_
          refine X11_64g C 24 dX11_round_21 rfl ?_
          refine G_iload_n (i := 2) C 25 dX11_round_24 rfl rfl rfl ?_
          refine G_aload_n (i := 0) C 26 dX11_round_25 rfl rfl rfl ?_
          refine G_iload_n (i := 2) C 27 dX11_round_26 rfl rfl rfl ?_
          refine G_aload_n (i := 0) C 28 dX11_round_27 rfl rfl rfl ?_
          refine X11_19g C 31 dX11_round_28 rfl ?_
          refine G_iconst (v := 2) C 32 dX11_round_31 rfl rfl ?_
          refine G_iald (n := 13) C 33 (by decide) (eMk (by decide) _ _ _) (2) rfl (by omega) (by decide) dX11_round_32 rfl (fun x32 ex32 => ?_)
          have Sx32 : x32 = P 0 2 := ex32.trans (mI_v il14 0 2)
          obtain ⟨mx32, hmx32, emx32⟩ := il14.2.1.2.2.2.2.2.2.2.1
          refine G_calli 36 (G_runV C Kc_X11_maySet KV_X11_203 (by omega) (by decide) (eM _ _ _) rfl (c_X11_maySet 0 TX nT n l P sl14 il14 y x32) rfl rfl rfl (Nat.le_of_ble_eq_true rfl) rfl dX11_round_33) rfl (fun x33 s33 h33 => ?_)
          have fn_1 : Qn s s33 := Qn.tr fnl14 (h33.1.MR)
          have i_1 : mI TX nT n l P s33 := mI_fr il14 (h33.1)
          refine G_iast (n := 9) C 37 (by decide) (fun σ => eMk (by decide) _ _ σ) (k) Ey (by omega) (by decide) (Nat.le_refl _) dX11_round_36 rfl (fun s36 es36 => ?_)
          have fn_2 : Qn s s36 := Qn.tr fn_1 ((Qm.up es36 (by unfold mR; omega)).n)
          have i_2 : mI TX nT n l P s36 := mI_f (m := fun q => q = 19) i_1 (Fr.up es36 rfl) (by decide) (by decide) (by decide) (by decide) (by decide) (by decide) (by decide)
          refine G_iinc (w := 1) C 40 dX11_round_37 rfl rfl rfl rfl (fun x37 ex37 => ?_)
          have Nx37 : x37 = nI (k + 1) := g_addN ex37 Ey rfl
          show GW SM E _ 40 [some (.ref (e_ad E 0)), some (.int q), some (.int x37), none, none, none, none] [] s36
          refine G_goto C 14 dX11_round_40 rfl ?_
          exact ih14 (k + 1) x37 s36 (g_cn (a := (k + 1)) Nx37 (by first | rfl | omega | (simp only [List.length_cons, List.length_drop]; done) | (simp only [List.length_cons, List.length_drop]; omega))) (by omega) (fun j hj => by
                  rw [es36, g_up_sj]
                  by_cases e : j = k
                  · rw [if_pos (by omega), e, h33.2, Sx32, Ey]
                    rfl
                  · rw [if_neg (by omega), h33.1 19 (by unfold mM; omega)]
                    exact hT0 j (by omega)) fn_2 i_2 (by omega)
    exact L14 (9 + 1) 0 0 s (g_cn (a := 0) rfl (by first | rfl | omega)) (by omega) (fun j hj => absurd hj (by omega)) fn i (by omega)
  ·
    have k6 := h3.symm.trans c6
    refine G_bipush (v := (-2)) C 11 dX11_round_9 rfl rfl ?_
    exact G_iret C dX11_round_11 (⟨⟨nT, n, l, hR⟩, by unfold s_round; rw [if_pos k6]⟩)
