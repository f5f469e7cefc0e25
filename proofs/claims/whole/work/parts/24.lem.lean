theorem x_inR {v B : Int32} {b : Nat} (h : ¬ x_in v 0 B = 0) (hB : B = nI b) (hb : b < 2147483648) : ∃ k, k ≤ b ∧ v = nI k := by
  obtain ⟨h1, h2⟩ := x_inN.mp h
  obtain ⟨j, hj, rfl⟩ := nI_of h1
  refine ⟨j, ?_, rfl⟩
  rw [hB, nI_ltI hb hj] at h2
  omega
theorem x_inR1 {v B : Int32} {b : Nat} (h : ¬ x_in v 1 B = 0) (hB : B = nI b) (hb : b < 2147483648) : ∃ k, 1 ≤ k ∧ k ≤ b ∧ v = nI k := by
  obtain ⟨h1, h2⟩ := x_inN.mp h
  have h0 : ¬ v < 0 := fun q => h1 (Int32.lt_trans q (by decide))
  obtain ⟨j, hj, rfl⟩ := nI_of h0
  refine ⟨j, ?_, ?_, rfl⟩
  · rw [show (1 : Int32) = nI 1 from rfl, nI_ltI hj (by decide)] at h1
    omega
  · rw [hB, nI_ltI hb hj] at h2
    omega
theorem x_inRm {v B : Int32} {b : Nat} (h : ¬ x_in v (-1) B = 0) (hB : B = nI b) (hb : b < 2147483648) : v = -1 ∨ ∃ k, k ≤ b ∧ v = nI k := by
  obtain ⟨h1, h2⟩ := x_inN.mp h
  by_cases h0 : v < 0
  · left
    have a1 : ¬ v.toInt < (-1 : Int32).toInt := fun q => h1 (Int32.lt_iff_toInt_lt.mpr q)
    have a2 : v.toInt < (0 : Int32).toInt := Int32.lt_iff_toInt_lt.mp h0
    have e1 : (-1 : Int32).toInt = -1 := rfl
    have e2 : (0 : Int32).toInt = 0 := rfl
    exact Int32.toInt_inj.mp (by omega)
  · right
    obtain ⟨j, hj, rfl⟩ := nI_of h0
    refine ⟨j, ?_, rfl⟩
    rw [hB, nI_ltI hb hj] at h2
    omega
theorem pI_up6 {TX : gTX} {nT n l : Nat} {P : gS} (h : pI TX nT n l P) (p : Nat) {v : Int32} (hv : ∃ m, m < 6 ∧ v = nI m) : pI TX nT n l (g_up P 6 p v) := by
  obtain ⟨h1, h2, h3, h4, h5, h6, h7⟩ := h
  refine ⟨h1, h2, h3, h4, h5, fun q hq => ⟨?_, (h6 q hq).2.1, (h6 q hq).2.2⟩, h7⟩
  rw [g_up_sj]
  split
  · exact hv
  · exact (h6 q hq).1
theorem pI_up7 {TX : gTX} {nT n l : Nat} {P : gS} (h : pI TX nT n l P) (p : Nat) (v : Int32) : pI TX nT n l (g_up P 7 p v) := h
theorem pI_law {TX : gTX} {nT n l l' : Nat} {P : gS} (h : pI TX nT n l P) {v : Int32} (hv : v = nI l') (hl : l' < nT) : pI TX nT n l' (g_up P 0 3 v) := by
  obtain ⟨h1, h2, h3, h4, h5, h6, h7, h8, h9⟩ := h
  exact ⟨h1, h2, hv, hl, h5, h6, h7, h8, h9⟩
theorem cv_up6 (σ : gS) (w p n : Nat) (v : Int32) (hw : w + 6 ≠ w) (hn : σ w 6 = nI n) (h6 : n ≤ 6) (hp : p < n) : cv (g_up σ (w + 6) p v) w = g_up (cv σ w) 6 p v := by
  funext b i
  rcases b with _ | _ | _ | _ | _ | _ | _ | _ | b
  · simp [cv, g_up, g_set]
  · simp [cv, g_up, g_set]
  · simp [cv, g_up, g_set]
  · simp [cv, g_up, g_set]
  · simp [cv, g_up, g_set]
  · simp [cv, g_up, g_set]
  · show (if i < (g_up σ (w + 6) p v w 6).toNatClampNeg then g_up σ (w + 6) p v (w + 6) i else 0) = g_up (cv σ w) 6 p v 6 i
    rw [g_up_sj, g_up_sj, g_up_n (by omega)]
    show _ = if i = p then v else if i < (σ w 6).toNatClampNeg then σ (w + 6) i else 0
    rw [hn, nI_clamp (by omega)]
    by_cases h : i = p
    · rw [if_pos h, if_pos h, if_pos (by omega)]
    · rw [if_neg h, if_neg h]
  · show (if i < (g_up σ (w + 6) p v w 6).toNatClampNeg then g_up σ (w + 6) p v (w + 7) i else 0) = g_up (cv σ w) 6 p v 7 i
    rw [g_up_n (by omega), g_up_n (by omega), g_up_n (by omega)]
    rfl
  · simp [cv, g_up, g_set]
theorem cv_up7 (σ : gS) (w p n : Nat) (v : Int32) (hw : w + 7 ≠ w) (hn : σ w 6 = nI n) (h6 : n ≤ 6) (hp : p < n) : cv (g_up σ (w + 7) p v) w = g_up (cv σ w) 7 p v := by
  funext b i
  rcases b with _ | _ | _ | _ | _ | _ | _ | _ | b
  · simp [cv, g_up, g_set]
  · simp [cv, g_up, g_set]
  · simp [cv, g_up, g_set]
  · simp [cv, g_up, g_set]
  · simp [cv, g_up, g_set]
  · simp [cv, g_up, g_set]
  · show (if i < (g_up σ (w + 7) p v w 6).toNatClampNeg then g_up σ (w + 7) p v (w + 6) i else 0) = g_up (cv σ w) 7 p v 6 i
    rw [g_up_n (by omega), g_up_n (by omega), g_up_n (by omega)]
    rfl
  · show (if i < (g_up σ (w + 7) p v w 6).toNatClampNeg then g_up σ (w + 7) p v (w + 7) i else 0) = g_up (cv σ w) 7 p v 7 i
    rw [g_up_sj, g_up_sj, g_up_n (by omega)]
    show _ = if i = p then v else if i < (σ w 6).toNatClampNeg then σ (w + 7) i else 0
    rw [hn, nI_clamp (by omega)]
    by_cases h : i = p
    · rw [if_pos h, if_pos h, if_pos (by omega)]
    · rw [if_neg h, if_neg h]
  · simp [cv, g_up, g_set]
theorem cI_up1 {TX : gTX} {nT n l w : Nat} {P σ σ' : gS} {p : Nat} {v : Int32} (hI : cI TX nT n l w P σ) (e : σ' = g_up σ (w + 1) p v) : cI TX nT n l w (g_up P 1 p v) σ' :=
  cI_upA hI e (by have := isW_lo hI.1; omega) (by rw [cv_up1, hI.2.1]) (pI_up1 hI.2.2.1 _ _)
theorem cI_up3 {TX : gTX} {nT n l w : Nat} {P σ σ' : gS} {p : Nat} {v : Int32} (hI : cI TX nT n l w P σ) (e : σ' = g_up σ (w + 3) p v) (hv : ∃ m, m < 1024 ∧ v = nI m) : cI TX nT n l w (g_up P 3 p v) σ' :=
  cI_upA hI e (by have := isW_lo hI.1; omega) (by rw [cv_up3, hI.2.1]) (pI_up3 hI.2.2.1 _ hv)
theorem cI_up5 {TX : gTX} {nT n l w : Nat} {P σ σ' : gS} {p : Nat} {v : Int32} (hI : cI TX nT n l w P σ) (e : σ' = g_up σ (w + 5) p v) : cI TX nT n l w (g_up P 5 p v) σ' :=
  cI_upA hI e (by have := isW_lo hI.1; omega) (by rw [cv_up5, hI.2.1]) (pI_up5 hI.2.2.1 _ _)
theorem cI_up6 {TX : gTX} {nT n l w : Nat} {P σ σ' : gS} {p : Nat} {v : Int32} (hI : cI TX nT n l w P σ) (e : σ' = g_up σ (w + 6) p v) (hp : p < n) (hv : ∃ m, m < 6 ∧ v = nI m) : cI TX nT n l w (g_up P 6 p v) σ' :=
  cI_upA hI e (by have := isW_lo hI.1; omega) (by rw [cv_up6 σ w p n v (by omega) (cI_n hI) hI.2.2.1.2.1 hp, hI.2.1]) (pI_up6 hI.2.2.1 _ hv)
theorem cI_up7 {TX : gTX} {nT n l w : Nat} {P σ σ' : gS} {p : Nat} {v : Int32} (hI : cI TX nT n l w P σ) (e : σ' = g_up σ (w + 7) p v) (hp : p < n) : cI TX nT n l w (g_up P 7 p v) σ' :=
  cI_upA hI e (by have := isW_lo hI.1; omega) (by rw [cv_up7 σ w p n v (by omega) (cI_n hI) hI.2.2.1.2.1 hp, hI.2.1]) (pI_up7 hI.2.2.1 _ _)
theorem cI_lawU {TX : gTX} {nT n l l' w : Nat} {P σ σ' : gS} {v : Int32} (hI : cI TX nT n l w P σ) (e : σ' = g_up σ w 5 v) (hv : v = nI l') (hl : l' < nT) : cI TX nT n l' w (g_up P 0 3 v) σ' := by
  obtain ⟨h1, h2, h3, h4⟩ := hI
  subst e
  refine ⟨h1, ?_, pI_law h3 hv hl, fun t ht => cT_up (Nat.lt_of_lt_of_le ht (pI_p h3)) (isW_lo h1) (h4 t ht)⟩
  rw [show (5 : Nat) = 2 + 3 from rfl, cv_up0 σ w (by decide), h2]
theorem cI_bec {TX : gTX} {nT n l : Nat} {P s s' : gS} (hm : cI TX nT n l 45 P s') (f : Fr (mU 54) s s') (e : cv s' 54 = cv s 45) : cI TX nT n l 54 P s' := by
  obtain ⟨h1, h2, h3, h4⟩ := hm
  refine ⟨Or.inr (Or.inl rfl), ?_, h3, h4⟩
  rw [e, ← h2]
  exact (cv_fr f (fun i hi => by unfold mU; omega)).symm
theorem cI_5 {TX : gTX} {nT n l w : Nat} {P s s' : gS} (h : cI TX nT n l w P s) (f : Fr (fun k => k = 5) s s') : cI TX nT n l w P s' := by
  obtain ⟨h1, h2, h3, h4⟩ := h
  refine ⟨h1, ?_, h3, fun t ht => cT_fr f (by omega) (by omega) (h4 t ht)⟩
  rw [cv_fr f (fun i hi => by have := isW_lo h1; omega)]
  exact h2
theorem x_cnt_r (v : Int32) : ∃ j, j ≤ 10 ∧ x_cnt v = nI j := by
  have : ∀ k, k ≤ 10 → ∃ j, j ≤ k ∧ x_ones v k = nI j := by
    intro k
    induction k with
    | zero => intro _; exact ⟨0, by decide, rfl⟩
    | succ k ih =>
      intro hk
      obtain ⟨j, hj, e⟩ := ih (by omega)
      unfold x_ones
      rw [e]
      rcases x_bit01 v (nI k) with h | h
      · rw [h]
        exact ⟨j, by omega, Int32.add_zero _⟩
      · rw [h]
        exact ⟨j + 1, by omega, by rw [show (1 : Int32) = nI 1 from rfl, nI_add]⟩
  exact this 10 (by omega)
theorem x_cr_r (TX : gTX) (P : gS) : ∀ k, ∃ j, j ≤ k ∧ x_cr TX k P = nI j := by
  intro k
  induction k with
  | zero => exact ⟨0, by decide, rfl⟩
  | succ k ih =>
    obtain ⟨j, hj, e⟩ := ih
    unfold x_cr
    rw [e]
    split
    · exact ⟨j, by omega, rfl⟩
    · exact ⟨j + 1, by omega, by rw [show (1 : Int32) = nI 1 from rfl, nI_add]⟩
theorem nI_m1 {j : Nat} (h : j < 2147483648) : (-1 : Int32) < nI j := by
  rw [Int32.lt_iff_toInt_lt, nI_toInt h]
  have : (-1 : Int32).toInt = -1 := rfl
  omega
theorem g_updj (f : Nat → Int32) (k j : Nat) (v : Int32) : upd f k v j = if j = k then v else f j := rfl
theorem cv_set {σ : gS} {w n : Nat} {a b c e f g : Int32} (hw : isW w) (hn : σ w 6 = nI n) (h6 : n < 6) : cv (g_up (g_up (g_up (g_up (g_up (g_up (g_up σ (w + 6) n a) (w + 7) n b) (w + 2) n c) (w + 3) n e) (w + 4) n f) (w + 5) n g) w 6 (nI n + 1)) w = g_up (g_up (g_up (g_up (g_up (g_up (g_up (cv σ w) 6 n a) 7 n b) 2 n c) 3 n e) 4 n f) 5 n g) 0 4 (nI n + 1) := by
  have e1 : nI n + 1 = nI (n + 1) := by rw [show (1 : Int32) = nI 1 from rfl, nI_add]
  funext q i
  rcases q with _ | _ | _ | _ | _ | _ | _ | _ | q
  · simp only [cv, g_up, g_set, g_updj, if_true, if_false]
    simp [g_updj]
    by_cases h : i = 4
    · subst h
      simp
    · by_cases h5 : i < 5
      · simp [h, h5]
        omega
      · simp [h, h5]
  · simp [cv, g_up, g_set]
  · simp [cv, g_up, g_set, g_updj]
  · simp [cv, g_up, g_set, g_updj]
  · simp [cv, g_up, g_set, g_updj]
  · simp [cv, g_up, g_set, g_updj]
  · simp only [cv, g_up, g_set]
    simp [e1, hn, g_updj]
    rw [nI_clamp (by omega), nI_clamp (by omega)]
    by_cases h : i = n
    · rw [if_pos h, if_pos (by omega), if_pos h]
    · by_cases h2 : i < n
      · rw [if_pos (by omega), if_neg h, if_neg h, if_pos h2]
      · rw [if_neg (by omega), if_neg h, if_neg h2]
  · simp only [cv, g_up, g_set]
    simp [e1, hn, g_updj]
    rw [nI_clamp (by omega), nI_clamp (by omega)]
    by_cases h : i = n
    · rw [if_pos h, if_pos (by omega), if_pos h]
    · by_cases h2 : i < n
      · rw [if_pos (by omega), if_neg h, if_neg h, if_pos h2]
      · rw [if_neg (by omega), if_neg h, if_neg h2]
  · simp [cv, g_up, g_set]
theorem pI_set {TX : gTX} {nT n l : Nat} {P : gS} (h : pI TX nT n l P) (h6 : n < 6) {a b c e f g : Int32} (ha : ∃ m, m < 6 ∧ a = nI m) (he : ∃ m, m < 1024 ∧ e = nI m) (hf : ∃ m, m < 1024 ∧ f = nI m) : pI TX nT (n + 1) l (g_up (g_up (g_up (g_up (g_up (g_up (g_up P 6 n a) 7 n b) 2 n c) 3 n e) 4 n f) 5 n g) 0 4 (nI n + 1)) := by
  obtain ⟨h1, h2, h3, h4, h5, h7, h8, h9, h10⟩ := h
  refine ⟨?_, by omega, h3, h4, h5, fun p hp => ?_, h8, h9, h10⟩
  · show nI n + 1 = nI (n + 1)
    rw [show (1 : Int32) = nI 1 from rfl, nI_add]
  · simp only [g_up, g_set]
    by_cases q : p = n
    · simp [q, g_updj]
      exact ⟨ha, he, hf⟩
    · have := h7 p (by omega)
      simp [q, g_updj]
      exact this
