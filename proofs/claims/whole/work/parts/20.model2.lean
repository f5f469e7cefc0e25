theorem y_wife (cu mo : Int32) : cu + mo + 10 * mo = cu + 11 * mo := by
  rw [Int32.add_assoc]
  congr 1
  have e : (11 : Int32) = 1 + 10 := by decide
  rw [e, Int32.add_mul, Int32.one_mul]
theorem y_hum (v m : Int32) : m - v = -v + m := by
  rw [Int32.sub_eq_add_neg, Int32.add_comm]
theorem g_up_id (P : gS) (a p : Nat) : g_up P a p (P a p) = P := by
  funext b
  unfold g_up g_set
  split
  · rename_i e
    subst e
    funext j
    unfold upd
    split
    · rename_i e
      rw [e]
    · rfl
  · rfl
theorem y_or0 (x : Int32) : x ||| 0 = x := by
  apply Int32.toBitVec_inj.mp
  rw [Int32.toBitVec_or]
  show x.toBitVec ||| 0#32 = x.toBitVec
  simp
theorem lisAt_bt (P : gS) (c : Int32) : ∀ n, n ≤ 6 → ∀ k, k < 32 → (x_lisAt P c n).toBitVec.getLsbD k = (decide (k < n) && decide (P 2 k = c) && !decide (x_lis P k = 0)) := by
  intro n
  induction n with
  | zero => intro _ k _; simp [x_lisAt]
  | succ n ih =>
    intro hn k hk
    have i := ih (by omega) k hk
    unfold x_lisAt
    by_cases h1 : P 2 n = c
    · rw [if_pos h1]
      by_cases h2 : x_lis P n = 0
      · rw [if_pos h2, i]
        by_cases e : k = n
        · subst e
          simp [h2]
        · have : decide (k < n + 1) = decide (k < n) := decide_eq_decide.mpr (by omega)
          rw [this]
      · rw [if_neg h2, bt_orp _ (by omega), i]
        by_cases e : k = n
        · subst e
          simp [h1, h2]
        · have : decide (k < n + 1) = decide (k < n) := decide_eq_decide.mpr (by omega)
          rw [this]
          simp [e]
    · rw [if_neg h1, i]
      by_cases e : k = n
      · subst e
        simp [h1]
      · have : decide (k < n + 1) = decide (k < n) := decide_eq_decide.mpr (by omega)
        rw [this]
theorem y_lisBit {P : gS} {c : Int32} {n k : Nat} (hn : n ≤ 6) (hk : k < n) : x_bit (x_lisAt P c n) (nI k) = 0 ↔ ¬ (P 2 k = c ∧ ¬ x_lis P k = 0) := by
  rw [bt_x _ k (by omega), lisAt_bt P c n hn k (by omega)]
  by_cases h1 : P 2 k = c <;> by_cases h2 : x_lis P k = 0 <;> simp [hk, h1, h2]
theorem x_bitN1 {s p : Int32} (h : ¬ x_bit s p = 1) : x_bit s p = 0 := (x_bit01 s p).resolve_right h
theorem x_bit1N {s p : Int32} (h : x_bit s p = 1) : ¬ x_bit s p = 0 := by rw [h]; decide
theorem y_cor : ∀ c, c < 9 → (if nI c = 8 then (0 : Int32) else nI c + 1) = nI c + 1 - (nI c + 1) / 9 * 9 := by decide +kernel
theorem y_fmP {x : Int32} (h : ¬ x - x / 9 * 9 < 0) : x - x / 9 * 9 = fmv x 9 := by
  unfold fmv fmOf
  rw [if_pos (Int32.not_lt.mp h)]
theorem y_fmN {x : Int32} (h : x - x / 9 * 9 < 0) : x - x / 9 * 9 + 9 = fmv x 9 := by
  unfold fmv fmOf
  rw [if_neg (Int32.not_le.mpr h)]
theorem mv_up2 (σ : gS) (p : Nat) (v : Int32) : mv (g_up σ 3 (4 * p) v) = g_up (mv σ) 2 p v := by
  funext b j
  rcases b with _ | _ | _ | _ | _ | _ | _ | _ | b
  · simp [mv, g_up, g_set]
  · simp [mv, g_up, g_set]
  · show g_up σ 3 (4 * p) v 3 (4 * j) = g_up (mv σ) 2 p v 2 j
    rw [g_up_sj, g_up_sj]
    by_cases h : j = p
    · rw [if_pos h, if_pos (by omega)]
    · rw [if_neg h, if_neg (by omega)]
      rfl
  · show g_up σ 3 (4 * p) v 3 (4 * j + 1) = mv σ 3 j
    rw [g_up_sj, if_neg (by omega)]
    rfl
  · show g_up σ 3 (4 * p) v 3 (4 * j + 2) = mv σ 4 j
    rw [g_up_sj, if_neg (by omega)]
    rfl
  · show g_up σ 3 (4 * p) v 3 (4 * j + 3) = mv σ 5 j
    rw [g_up_sj, if_neg (by omega)]
    rfl
  · simp [mv, g_up, g_set]
  · simp [mv, g_up, g_set]
  · simp [mv, g_up, g_set]
theorem mv_up3 (σ : gS) (p : Nat) (v : Int32) : mv (g_up σ 3 (4 * p + 1) v) = g_up (mv σ) 3 p v := by
  funext b j
  rcases b with _ | _ | _ | _ | _ | _ | _ | _ | b
  · simp [mv, g_up, g_set]
  · simp [mv, g_up, g_set]
  · show g_up σ 3 (4 * p + 1) v 3 (4 * j) = mv σ 2 j
    rw [g_up_sj, if_neg (by omega)]
    rfl
  · show g_up σ 3 (4 * p + 1) v 3 (4 * j + 1) = g_up (mv σ) 3 p v 3 j
    rw [g_up_sj, g_up_sj]
    by_cases h : j = p
    · rw [if_pos h, if_pos (by omega)]
    · rw [if_neg h, if_neg (by omega)]
      rfl
  · show g_up σ 3 (4 * p + 1) v 3 (4 * j + 2) = mv σ 4 j
    rw [g_up_sj, if_neg (by omega)]
    rfl
  · show g_up σ 3 (4 * p + 1) v 3 (4 * j + 3) = mv σ 5 j
    rw [g_up_sj, if_neg (by omega)]
    rfl
  · simp [mv, g_up, g_set]
  · simp [mv, g_up, g_set]
  · simp [mv, g_up, g_set]
theorem mv_up4 (σ : gS) (p : Nat) (v : Int32) : mv (g_up σ 3 (4 * p + 2) v) = g_up (mv σ) 4 p v := by
  funext b j
  rcases b with _ | _ | _ | _ | _ | _ | _ | _ | b
  · simp [mv, g_up, g_set]
  · simp [mv, g_up, g_set]
  · show g_up σ 3 (4 * p + 2) v 3 (4 * j) = mv σ 2 j
    rw [g_up_sj, if_neg (by omega)]
    rfl
  · show g_up σ 3 (4 * p + 2) v 3 (4 * j + 1) = mv σ 3 j
    rw [g_up_sj, if_neg (by omega)]
    rfl
  · show g_up σ 3 (4 * p + 2) v 3 (4 * j + 2) = g_up (mv σ) 4 p v 4 j
    rw [g_up_sj, g_up_sj]
    by_cases h : j = p
    · rw [if_pos h, if_pos (by omega)]
    · rw [if_neg h, if_neg (by omega)]
      rfl
  · show g_up σ 3 (4 * p + 2) v 3 (4 * j + 3) = mv σ 5 j
    rw [g_up_sj, if_neg (by omega)]
    rfl
  · simp [mv, g_up, g_set]
  · simp [mv, g_up, g_set]
  · simp [mv, g_up, g_set]
theorem mv_up5 (σ : gS) (p : Nat) (v : Int32) : mv (g_up σ 3 (4 * p + 3) v) = g_up (mv σ) 5 p v := by
  funext b j
  rcases b with _ | _ | _ | _ | _ | _ | _ | _ | b
  · simp [mv, g_up, g_set]
  · simp [mv, g_up, g_set]
  · show g_up σ 3 (4 * p + 3) v 3 (4 * j) = mv σ 2 j
    rw [g_up_sj, if_neg (by omega)]
    rfl
  · show g_up σ 3 (4 * p + 3) v 3 (4 * j + 1) = mv σ 3 j
    rw [g_up_sj, if_neg (by omega)]
    rfl
  · show g_up σ 3 (4 * p + 3) v 3 (4 * j + 2) = mv σ 4 j
    rw [g_up_sj, if_neg (by omega)]
    rfl
  · show g_up σ 3 (4 * p + 3) v 3 (4 * j + 3) = g_up (mv σ) 5 p v 5 j
    rw [g_up_sj, g_up_sj]
    by_cases h : j = p
    · rw [if_pos h, if_pos (by omega)]
    · rw [if_neg h, if_neg (by omega)]
      rfl
  · simp [mv, g_up, g_set]
  · simp [mv, g_up, g_set]
  · simp [mv, g_up, g_set]
theorem mv_up0 (σ : gS) {k : Nat} (hk : k < 3) (v : Int32) : mv (g_up σ 4 k v) = g_up (mv σ) 0 k v := by
  funext b j
  rcases b with _ | _ | _ | _ | _ | _ | _ | _ | b
  · show (if j = 0 then g_up σ 4 k v 4 0 else if j = 1 then g_up σ 4 k v 4 1 else if j = 2 then g_up σ 4 k v 4 2 else if j = 3 then σ 0 10 else if j = 4 then σ 0 0 else 0) = g_up (mv σ) 0 k v 0 j
    rw [g_up_sj, g_up_sj, g_up_sj, g_up_sj]
    show _ = if j = k then v else if j = 0 then σ 4 0 else if j = 1 then σ 4 1 else if j = 2 then σ 4 2 else if j = 3 then σ 0 10 else if j = 4 then σ 0 0 else 0
    have : k = 0 ∨ k = 1 ∨ k = 2 := by omega
    rcases this with rfl | rfl | rfl
    · by_cases h0 : j = 0 <;> simp [h0]
    · by_cases h0 : j = 0
      · simp [h0]
      · by_cases h1 : j = 1 <;> simp [h0, h1]
    · by_cases h0 : j = 0
      · simp [h0]
      · by_cases h1 : j = 1
        · simp [h1]
        · by_cases h2 : j = 2 <;> simp [h0, h1, h2]
  · show g_up σ 4 k v 4 (3 + j) = mv σ 1 j
    rw [g_up_sj, if_neg (by omega)]
    rfl
  · simp [mv, g_up, g_set]
  · simp [mv, g_up, g_set]
  · simp [mv, g_up, g_set]
  · simp [mv, g_up, g_set]
  · simp [mv, g_up, g_set]
  · simp [mv, g_up, g_set]
  · simp [mv, g_up, g_set]
theorem mv_up1 (σ : gS) (t : Nat) (v : Int32) : mv (g_up σ 4 (3 + t) v) = g_up (mv σ) 1 t v := by
  funext b j
  rcases b with _ | _ | _ | _ | _ | _ | _ | _ | b
  · show (if j = 0 then g_up σ 4 (3 + t) v 4 0 else if j = 1 then g_up σ 4 (3 + t) v 4 1 else if j = 2 then g_up σ 4 (3 + t) v 4 2 else if j = 3 then σ 0 10 else if j = 4 then σ 0 0 else 0) = mv σ 0 j
    rw [g_up_sj, g_up_sj, g_up_sj, if_neg (show ¬ 0 = 3 + t by omega), if_neg (show ¬ 1 = 3 + t by omega), if_neg (show ¬ 2 = 3 + t by omega)]
    rfl
  · show g_up σ 4 (3 + t) v 4 (3 + j) = g_up (mv σ) 1 t v 1 j
    rw [g_up_sj, g_up_sj]
    by_cases h : j = t
    · rw [if_pos h, if_pos (by omega)]
    · rw [if_neg h, if_neg (by omega)]
      rfl
  · simp [mv, g_up, g_set]
  · simp [mv, g_up, g_set]
  · simp [mv, g_up, g_set]
  · simp [mv, g_up, g_set]
  · simp [mv, g_up, g_set]
  · simp [mv, g_up, g_set]
  · simp [mv, g_up, g_set]
theorem mI_upA {TX : gTX} {nT n l : Nat} {P P' σ σ' : gS} {k j : Nat} {v : Int32} (hI : mI TX nT n l P σ) (e : σ' = g_up σ k j v) (h6 : k ≠ 6) (h7 : k ≠ 7) (hc : mv (g_up σ k j v) = P') (hp : pI TX nT n l P') : mI TX nT n l P' σ' := by
  subst e
  exact ⟨hc, hp, fun t ht => mT_fr (m := fun q => q = k) (fun a ha => g_set_n _ _ ha) (by omega) (by omega) (hI.2.2 t ht)⟩
theorem mI_up2 {TX : gTX} {nT n l : Nat} {P σ σ' : gS} {p : Nat} {v : Int32} (hI : mI TX nT n l P σ) (e : σ' = g_up σ 3 (4 * p) v) : mI TX nT n l (g_up P 2 p v) σ' :=
  mI_upA hI e (by decide) (by decide) (by rw [mv_up2, hI.1]) (pI_up2 hI.2.1 _ _)
theorem mI_up4 {TX : gTX} {nT n l : Nat} {P σ σ' : gS} {p : Nat} {v : Int32} (hI : mI TX nT n l P σ) (e : σ' = g_up σ 3 (4 * p + 2) v) (hv : ∃ m, m < 1024 ∧ v = nI m) : mI TX nT n l (g_up P 4 p v) σ' :=
  mI_upA hI e (by decide) (by decide) (by rw [mv_up4, hI.1]) (pI_up4 hI.2.1 _ hv)
theorem mI_up3 {TX : gTX} {nT n l : Nat} {P σ σ' : gS} {p : Nat} {v : Int32} (hI : mI TX nT n l P σ) (e : σ' = g_up σ 3 (4 * p + 1) v) (hv : ∃ m, m < 1024 ∧ v = nI m) : mI TX nT n l (g_up P 3 p v) σ' :=
  mI_upA hI e (by decide) (by decide) (by rw [mv_up3, hI.1]) (pI_up3 hI.2.1 _ hv)
theorem mI_up5 {TX : gTX} {nT n l : Nat} {P σ σ' : gS} {p : Nat} {v : Int32} (hI : mI TX nT n l P σ) (e : σ' = g_up σ 3 (4 * p + 3) v) : mI TX nT n l (g_up P 5 p v) σ' :=
  mI_upA hI e (by decide) (by decide) (by rw [mv_up5, hI.1]) (pI_up5 hI.2.1 _ _)
theorem mI_up1 {TX : gTX} {nT n l : Nat} {P σ σ' : gS} {t : Nat} {v : Int32} (hI : mI TX nT n l P σ) (e : σ' = g_up σ 4 (3 + t) v) : mI TX nT n l (g_up P 1 t v) σ' :=
  mI_upA hI e (by decide) (by decide) (by rw [mv_up1, hI.1]) (pI_up1 hI.2.1 _ _)
theorem mI_hour {TX : gTX} {nT n l : Nat} {P σ σ' : gS} {v : Int32} (hI : mI TX nT n l P σ) (e : σ' = g_up σ 4 0 v) : mI TX nT n l (g_up P 0 0 v) σ' :=
  mI_upA hI e (by decide) (by decide) (by rw [mv_up0 _ (by decide), hI.1]) (pI_hour hI.2.1 _)
theorem mI_corner {TX : gTX} {nT n l : Nat} {P σ σ' : gS} {v : Int32} (hI : mI TX nT n l P σ) (e : σ' = g_up σ 4 1 v) (hv : ∃ k, k < 9 ∧ v = nI k) : mI TX nT n l (g_up P 0 1 v) σ' :=
  mI_upA hI e (by decide) (by decide) (by rw [mv_up0 _ (by decide), hI.1]) (pI_corner hI.2.1 hv)
theorem mI_news {TX : gTX} {nT n l : Nat} {P σ σ' : gS} {v : Int32} (hI : mI TX nT n l P σ) (e : σ' = g_up σ 4 2 v) (hv : ∃ k, k < 1024 ∧ v = nI k) : mI TX nT n l (g_up P 0 2 v) σ' :=
  mI_upA hI e (by decide) (by decide) (by rw [mv_up0 _ (by decide), hI.1]) (pI_news hI.2.1 hv)
theorem x_gabN_a (TX : gTX) (P : gS) (n : Nat) {a : Nat} (h4 : a ≠ 4) : ∀ k, x_gabN TX P n k a = P a := by
  intro k
  induction k with
  | zero => rfl
  | succ k ih =>
    show g_up (x_gabN TX P n k) 4 k _ a = P a
    rw [g_up_n h4]
    exact ih
theorem x_movN_a (TX : gTX) (P : gS) {a : Nat} (h2 : a ≠ 2) : ∀ k, x_movN TX P k a = P a := by
  intro k
  induction k with
  | zero => rfl
  | succ k ih =>
    show g_up (x_movN TX P k) 2 k _ a = P a
    rw [g_up_n h2]
    exact ih
theorem x_pass_a (TX : gTX) (P : gS) {a : Nat} (h0 : a ≠ 0) (h2 : a ≠ 2) (h4 : a ≠ 4) : x_pass TX P a = P a := by
  unfold x_pass x_pcor
  rw [g_up_n h0, g_up_n h0]
  unfold x_pmov
  rw [x_movN_a TX _ h2]
  unfold x_pgab
  rw [x_gabN_a TX _ _ h4]
  unfold x_pcry
  split
  · rfl
  · exact x_cryN_a _ _ h0 h4 _
theorem x_run_a (TX : gTX) (P : gS) {a : Nat} (h0 : a ≠ 0) (h2 : a ≠ 2) (h4 : a ≠ 4) : ∀ k, x_run TX k P a = P a := by
  intro k
  induction k with
  | zero => rfl
  | succ k ih => exact (x_pass_a TX _ h0 h2 h4).trans ih
theorem gz_m {s : gS} (hz : gz SM s) {k j : Nat} (h : SMn k ≤ j) : s k j = 0 := hz k j h
def mK (k : Nat) : Prop := k = 3 ∨ k = 4 ∨ k = 16 ∨ k = 17 ∨ k = 18
theorem Fr.HK {a b : gS} (h : Fr mH a b) : Fr mK a b := h.mono (fun k hk => by unfold mH at hk; unfold mK; omega)
theorem Fr.MK {a b : gS} (h : Fr mM a b) : Fr mK a b := h.mono (fun k hk => by unfold mM at hk; unfold mK; omega)
def kp (s s1 : gS) : Prop := (∀ k, k < 24 → s1 18 k = s 3 k) ∧ (∀ k, k < 3 → s1 18 (24 + k) = s 4 k) ∧ ∀ k, 24 ≤ k → s 3 k = 0
def ly (s s1 : gS) : Prop := (∀ k, k < 24 → s1 3 k = s 18 k) ∧ (∀ k, k < 3 → s1 4 k = s 18 (24 + k)) ∧ (∀ k, 24 ≤ k → s1 3 k = 0) ∧ ∀ k, 3 ≤ k → s1 4 k = s 4 k
theorem kp_fr {m : Nat → Prop} {s s1 s2 : gS} (h : kp s s1) (hf : Fr m s1 s2) (hm : ¬ m 18) : kp s s2 := by
  unfold kp at h ⊢
  rw [hf _ hm]
  exact h
theorem mI_lays {TX : gTX} {nT n l : Nat} {P P' s s1 s2 s3 : gS} (hI : mI TX nT n l P s) (hk : kp s s2) (h2 : mI TX nT n l P' s2) (hP : P' 1 = P 1) (hf : Fr mK s s2) (hl : ly s2 s3) (hf3 : Fr (fun q => q = 3 ∨ q = 4) s2 s3) : mI TX nT n l P s3 := by
  have e0 : s3 0 = s 0 := (hf3 0 (by decide)).trans (hf 0 (by unfold mK; omega))
  have e1 : s3 1 = s 1 := (hf3 1 (by decide)).trans (hf 1 (by unfold mK; omega))
  have e2 : s3 2 = s 2 := (hf3 2 (by decide)).trans (hf 2 (by unfold mK; omega))
  have e3 : s3 3 = s 3 := by
    funext j
    by_cases h : j < 24
    · rw [hl.1 j h, hk.1 j h]
    · rw [hl.2.2.1 j (by omega), hk.2.2 j (by omega)]
  have e4 : s3 4 = s 4 := by
    funext j
    by_cases h : j < 3
    · rw [hl.2.1 j h, hk.2.1 j h]
    · rw [hl.2.2.2 j (by omega)]
      obtain ⟨q, rfl⟩ : ∃ q, j = 3 + q := ⟨j - 3, by omega⟩
      have a1 : s2 4 (3 + q) = P' 1 q := mI_v h2 1 q
      have a2 : s 4 (3 + q) = P 1 q := mI_v hI 1 q
      rw [a1, a2, hP]
  refine ⟨?_, hI.2.1, fun t ht => mT_fr (hf.tr (hf3.mono (m' := mK) (fun k hk => by unfold mK; omega))) (by unfold mK; omega) (by unfold mK; omega) (hI.2.2 t ht)⟩
  rw [← hI.1]
  funext a
  unfold mv
  rw [e0, e1, e2, e3, e4]
