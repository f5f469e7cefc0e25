def Qn (τ τ' : gS) : Prop := (∀ k, ¬ mR k → k ≠ 0 → τ' k = τ k) ∧ ∀ j, j ≠ 0 → j ≠ 10 → j ≠ 31 → τ' 0 j = τ 0 j
theorem Qn.rf {a : gS} : Qn a a := ⟨fun _ _ _ => rfl, fun _ _ _ _ => rfl⟩
theorem Qn.tr {a b c : gS} (h1 : Qn a b) (h2 : Qn b c) : Qn a c := ⟨fun k h h0 => (h2.1 k h h0).trans (h1.1 k h h0), fun j h h1' h2' => (h2.2 j h h1' h2').trans (h1.2 j h h1' h2')⟩
theorem Qm.n {a b : gS} (h : Qm a b) : Qn a b := ⟨h.1, fun j _ _ h31 => h.2 j h31⟩
theorem Qn.up0 {a b : gS} {j : Nat} {v : Int32} (e : b = g_up a 0 j v) (h : j = 0 ∨ j = 10 ∨ j = 31) : Qn a b := by
  refine ⟨fun q hq h0 => by rw [e, g_up_n h0], fun q h0 h10 h31 => ?_⟩
  rw [e, g_up_sj, if_neg (by omega)]
theorem Qm.up31 {a b : gS} {v : Int32} (e : b = g_up a 0 31 v) : Qm a b := by
  refine ⟨fun q hq h0 => by rw [e, g_up_n h0], fun q h31 => ?_⟩
  rw [e, g_up_sj, if_neg h31]
theorem Rm_now {TX : gTX} {nT n l n' l' : Nat} {P P' B τ τ' : gS} (h : Rm TX nT n l P B τ) (hI' : mI TX nT n' l' P' τ') (q : Qn τ τ') (hn : n ≤ n') (hk : ∀ j, j < n → P' 6 j = P 6 j ∧ P' 7 j = P 7 j) (he : eI P') : Rm TX nT n' l' P' B τ' := by
  obtain ⟨h1, h2, h3⟩ := h
  have h6 := hI'.2.1.2.1
  have e5 : τ' 5 = τ 5 := q.1 5 (by unfold mR; omega) (by decide)
  have e8 : τ' 8 = τ 8 := q.1 8 (by unfold mR; omega) (by decide)
  have e9 : τ' 9 = τ 9 := q.1 9 (by unfold mR; omega) (by decide)
  have e10 : τ' 10 = τ 10 := q.1 10 (by unfold mR; omega) (by decide)
  have e11 : τ' 11 = τ 11 := q.1 11 (by unfold mR; omega) (by decide)
  have e12 : τ' 12 = τ 12 := q.1 12 (by unfold mR; omega) (by decide)
  have z6 : τ' 0 6 = τ 0 6 := q.2 6 (by decide) (by decide) (by decide)
  have z9 : τ' 0 9 = τ 0 9 := q.2 9 (by decide) (by decide) (by decide)
  have z11 : τ' 0 11 = τ 0 11 := q.2 11 (by decide) (by decide) (by decide)
  have ek : ∀ a, (if τ 0 11 = 0 then fun _ => (0 : Int32) else kv τ' a) = (if τ 0 11 = 0 then fun _ => (0 : Int32) else kv τ a) := by
    intro a
    by_cases hz : τ 0 11 = 0
    · rw [if_pos hz, if_pos hz]
    · rw [if_neg hz, if_neg hz]
      have hB2 : B 0 2 = τ 0 11 := by
        rw [← h2]
        rfl
      obtain ⟨nK, lK, k1, k2, k3, k4⟩ := h3.2.2.2.2.2.2 ((h3.2.2.2.1).resolve_left (by rw [hB2]; exact hz))
      have hK : (fun a => B (a + 8)) 0 4 = kv τ 0 4 := by
        show B 8 4 = _
        rw [← h2]
        show (if τ 0 11 = 0 then fun _ => (0 : Int32) else kv τ 0) 4 = _
        rw [if_neg hz]
      have hnK : τ 9 0 = nI nK := hK.symm.trans k1.1
      unfold kv
      rw [e8, e9]
      have e61 : ∀ j, j < nK → τ' 1 j = τ 1 j := fun j hj => (mI_6 hI' (by omega)).trans ((hk j (by omega)).1.trans (mI_6 h1 (by omega)).symm)
      have e72 : ∀ j, j < nK → τ' 2 j = τ 2 j := fun j hj => (mI_7 hI' (by omega)).trans ((hk j (by omega)).2.trans (mI_7 h1 (by omega)).symm)
      have f6 : (fun j => if j < (τ 9 0).toNatClampNeg then τ' 1 j else 0) = (fun j => if j < (τ 9 0).toNatClampNeg then τ 1 j else 0) := by
        funext j
        rw [hnK, nI_clamp (by omega)]
        by_cases hj : j < nK
        · rw [if_pos hj, if_pos hj, e61 j hj]
        · rw [if_neg hj, if_neg hj]
      have f7 : (fun j => if j < (τ 9 0).toNatClampNeg then τ' 2 j else 0) = (fun j => if j < (τ 9 0).toNatClampNeg then τ 2 j else 0) := by
        funext j
        rw [hnK, nI_clamp (by omega)]
        by_cases hj : j < nK
        · rw [if_pos hj, if_pos hj, e72 j hj]
        · rw [if_neg hj, if_neg hj]
      rw [f6, f7]
  refine ⟨hI', ?_, ?_⟩
  · rw [← h2]
    funext a
    unfold mB
    rw [z6, z9, z11, e5, e10, e11, e12]
    simp only [ek]
  · obtain ⟨b1, b2, b3, b4, b5, b6, b7⟩ := h3
    refine ⟨b1, b2, b3, b4, b5, he, fun hq => ?_⟩
    obtain ⟨nK, lK, k1, k2, k3, k4⟩ := b7 hq
    exact ⟨nK, lK, k1, by omega, fun j hj => ⟨(k3 j hj).1.trans (hk j (by omega)).1.symm, (k3 j hj).2.trans (hk j (by omega)).2.symm⟩, k4⟩
theorem RM_up {TX : gTX} {nT n l l' : Nat} {P P' B s s' : gS} (h : Rm TX nT n l P B s) (hI : mI TX nT n l' P' s') (f : Qn s s') (h6 : P' 6 = P 6) (h7 : P' 7 = P 7) (he : eI P') : RM TX P' B s' := ⟨nT, n, l', Rm_now h hI f (Nat.le_refl n) (fun j _ => ⟨by rw [h6], by rw [h7]⟩) he⟩
theorem RM_i {TX : gTX} {nT n l : Nat} {P B s s' : gS} (h : Rm TX nT n l P B s) (hI : mI TX nT n l P s') (f : Qn s s') : RM TX P B s' := RM_up h hI f rfl rfl h.2.2.2.2.2.2.2.1
theorem Rm_i {TX : gTX} {nT n l : Nat} {P B s s' : gS} (h : Rm TX nT n l P B s) (hI : mI TX nT n l P s') (f : Qn s s') : Rm TX nT n l P B s' := Rm_now h hI f (Nat.le_refl n) (fun j _ => ⟨rfl, rfl⟩) h.2.2.2.2.2.2.2.1
theorem g_up2 (P : gS) (a p : Nat) (v w : Int32) : g_up (g_up P a p v) a p w = g_up P a p w := by
  funext b
  unfold g_up g_set
  by_cases e : b = a
  · rw [if_pos e, if_pos e]
    funext j
    rw [if_pos rfl]
    unfold upd
    by_cases h : j = p
    · rw [if_pos h, if_pos h]
    · rw [if_neg h, if_neg h, if_neg h]
  · rw [if_neg e, if_neg e, if_neg e]
theorem mv_law (σ : gS) (v : Int32) : mv (g_up σ 0 10 v) = g_up (mv σ) 0 3 v := by
  have z : ∀ j, g_up σ 0 10 v 0 j = if j = 10 then v else σ 0 j := fun j => g_up_sj _ _ _ _ _
  have o : ∀ k, k ≠ 0 → g_up σ 0 10 v k = σ k := fun k hk => g_up_n hk
  have z0 : g_up σ 0 10 v 0 0 = σ 0 0 := by rw [z, if_neg (by decide)]
  have z10 : g_up σ 0 10 v 0 10 = v := by rw [z, if_pos rfl]
  funext b j
  rcases b with _ | _ | _ | _ | _ | _ | _ | _ | b
  · rw [g_up_sj]
    show (if j = 0 then g_up σ 0 10 v 4 0 else if j = 1 then g_up σ 0 10 v 4 1 else if j = 2 then g_up σ 0 10 v 4 2 else if j = 3 then g_up σ 0 10 v 0 10 else if j = 4 then g_up σ 0 10 v 0 0 else 0) = if j = 3 then v else if j = 0 then σ 4 0 else if j = 1 then σ 4 1 else if j = 2 then σ 4 2 else if j = 3 then σ 0 10 else if j = 4 then σ 0 0 else 0
    rw [o 4 (by decide), z0, z10]
    by_cases h0 : j = 0
    · simp [h0]
    · by_cases h1 : j = 1
      · simp [h1]
      · by_cases h2 : j = 2
        · simp [h2]
        · by_cases h3 : j = 3 <;> simp [h0, h1, h2, h3]
  · rw [g_up_n (by decide)]
    show g_up σ 0 10 v 4 (3 + j) = σ 4 (3 + j)
    rw [o 4 (by decide)]
  · rw [g_up_n (by decide)]
    show g_up σ 0 10 v 3 (4 * j) = σ 3 (4 * j)
    rw [o 3 (by decide)]
  · rw [g_up_n (by decide)]
    show g_up σ 0 10 v 3 (4 * j + 1) = σ 3 (4 * j + 1)
    rw [o 3 (by decide)]
  · rw [g_up_n (by decide)]
    show g_up σ 0 10 v 3 (4 * j + 2) = σ 3 (4 * j + 2)
    rw [o 3 (by decide)]
  · rw [g_up_n (by decide)]
    show g_up σ 0 10 v 3 (4 * j + 3) = σ 3 (4 * j + 3)
    rw [o 3 (by decide)]
  · rw [g_up_n (by decide)]
    show (if j < (g_up σ 0 10 v 0 0).toNatClampNeg then g_up σ 0 10 v 1 j else 0) = if j < (σ 0 0).toNatClampNeg then σ 1 j else 0
    rw [o 1 (by decide), z0]
  · rw [g_up_n (by decide)]
    show (if j < (g_up σ 0 10 v 0 0).toNatClampNeg then g_up σ 0 10 v 2 j else 0) = if j < (σ 0 0).toNatClampNeg then σ 2 j else 0
    rw [o 2 (by decide), z0]
  · rw [g_up_n (by omega)]
    rfl
theorem mI_lawU {TX : gTX} {nT n l l' : Nat} {P σ σ' : gS} {v : Int32} (hI : mI TX nT n l P σ) (e : σ' = g_up σ 0 10 v) (hv : v = nI l') (hl : l' < nT) : mI TX nT n l' (g_up P 0 3 v) σ' := by
  obtain ⟨h1, h2, h3⟩ := hI
  subst e
  exact ⟨by rw [mv_law, h1], pI_law h2 hv hl, fun t ht => mT_fr (m := fun q => q = 0) (fun a ha => g_set_n _ _ ha) (by decide) (by decide) (h3 t ht)⟩
theorem mv_up6 (σ : gS) {p n : Nat} (v : Int32) (hn : σ 0 0 = nI n) (h6 : n ≤ 6) (hp : p < n) : mv (g_up σ 1 p v) = g_up (mv σ) 6 p v := by
  have o : ∀ k, k ≠ 1 → g_up σ 1 p v k = σ k := fun k hk => g_up_n hk
  funext b j
  rcases b with _ | _ | _ | _ | _ | _ | _ | _ | b
  · simp [mv, g_up, g_set]
  · simp [mv, g_up, g_set]
  · simp [mv, g_up, g_set]
  · simp [mv, g_up, g_set]
  · simp [mv, g_up, g_set]
  · simp [mv, g_up, g_set]
  · rw [g_up_sj]
    show (if j < (g_up σ 1 p v 0 0).toNatClampNeg then g_up σ 1 p v 1 j else 0) = if j = p then v else if j < (σ 0 0).toNatClampNeg then σ 1 j else 0
    rw [o 0 (by decide), g_up_sj, hn, nI_clamp (by omega)]
    by_cases h : j = p
    · rw [if_pos (by omega), if_pos h, if_pos h]
    · rw [if_neg h, if_neg h]
  · simp [mv, g_up, g_set]
  · simp [mv, g_up, g_set]
theorem mv_up7 (σ : gS) {p n : Nat} (v : Int32) (hn : σ 0 0 = nI n) (h6 : n ≤ 6) (hp : p < n) : mv (g_up σ 2 p v) = g_up (mv σ) 7 p v := by
  have o : ∀ k, k ≠ 2 → g_up σ 2 p v k = σ k := fun k hk => g_up_n hk
  funext b j
  rcases b with _ | _ | _ | _ | _ | _ | _ | _ | b
  · simp [mv, g_up, g_set]
  · simp [mv, g_up, g_set]
  · simp [mv, g_up, g_set]
  · simp [mv, g_up, g_set]
  · simp [mv, g_up, g_set]
  · simp [mv, g_up, g_set]
  · simp [mv, g_up, g_set]
  · rw [g_up_sj]
    show (if j < (g_up σ 2 p v 0 0).toNatClampNeg then g_up σ 2 p v 2 j else 0) = if j = p then v else if j < (σ 0 0).toNatClampNeg then σ 2 j else 0
    rw [o 0 (by decide), g_up_sj, hn, nI_clamp (by omega)]
    by_cases h : j = p
    · rw [if_pos (by omega), if_pos h, if_pos h]
    · rw [if_neg h, if_neg h]
  · simp [mv, g_up, g_set]
theorem mI_up6 {TX : gTX} {nT n l : Nat} {P σ σ' : gS} {p : Nat} {v : Int32} (hI : mI TX nT n l P σ) (e : σ' = g_up σ 1 p v) (hp : p < n) (hv : ∃ m, m < 6 ∧ v = nI m) : mI TX nT n l (g_up P 6 p v) σ' :=
  mI_upA hI e (by decide) (by decide) (by rw [mv_up6 σ v (mI_n hI) hI.2.1.2.1 hp, hI.1]) (pI_up6 hI.2.1 _ hv)
theorem mI_up7 {TX : gTX} {nT n l : Nat} {P σ σ' : gS} {p : Nat} {v : Int32} (hI : mI TX nT n l P σ) (e : σ' = g_up σ 2 p v) (hp : p < n) : mI TX nT n l (g_up P 7 p v) σ' :=
  mI_upA hI e (by decide) (by decide) (by rw [mv_up7 σ v (mI_n hI) hI.2.1.2.1 hp, hI.1]) (pI_up7 hI.2.1 _ _)
theorem mv_set {σ τ : gS} {n : Nat} {a b c e f g : Int32} (hn : σ 0 0 = nI n) (h6 : n < 6) (t0 : ∀ j, τ 0 j = if j = 0 then nI n + 1 else σ 0 j) (t1 : ∀ j, τ 1 j = if j = n then a else σ 1 j) (t2 : ∀ j, τ 2 j = if j = n then b else σ 2 j) (t3 : ∀ j, τ 3 j = if j = 4 * n + 3 then g else if j = 4 * n + 2 then f else if j = 4 * n + 1 then e else if j = 4 * n then c else σ 3 j) (t4 : τ 4 = σ 4) : mv τ = g_up (g_up (g_up (g_up (g_up (g_up (g_up (mv σ) 6 n a) 7 n b) 2 n c) 3 n e) 4 n f) 5 n g) 0 4 (nI n + 1) := by
  have e1 : nI n + 1 = nI (n + 1) := by rw [show (1 : Int32) = nI 1 from rfl, nI_add]
  have u0 : τ 0 0 = nI n + 1 := by rw [t0, if_pos rfl]
  have u10 : τ 0 10 = σ 0 10 := by rw [t0, if_neg (by decide)]
  funext q j
  rcases q with _ | _ | _ | _ | _ | _ | _ | _ | q
  · rw [g_up_sj, g_up_n (by decide), g_up_n (by decide), g_up_n (by decide), g_up_n (by decide), g_up_n (by decide), g_up_n (by decide)]
    show (if j = 0 then τ 4 0 else if j = 1 then τ 4 1 else if j = 2 then τ 4 2 else if j = 3 then τ 0 10 else if j = 4 then τ 0 0 else 0) = if j = 4 then nI n + 1 else if j = 0 then σ 4 0 else if j = 1 then σ 4 1 else if j = 2 then σ 4 2 else if j = 3 then σ 0 10 else if j = 4 then σ 0 0 else 0
    rw [t4, u0, u10]
    by_cases h0 : j = 0
    · simp [h0]
    · by_cases h1 : j = 1
      · simp [h1]
      · by_cases h2 : j = 2
        · simp [h2]
        · by_cases h3 : j = 3
          · simp [h3]
          · by_cases h4 : j = 4 <;> simp [h0, h1, h2, h3, h4]
  · rw [g_up_n (by decide), g_up_n (by decide), g_up_n (by decide), g_up_n (by decide), g_up_n (by decide), g_up_n (by decide), g_up_n (by decide)]
    show τ 4 (3 + j) = σ 4 (3 + j)
    rw [t4]
  · rw [g_up_n (by decide), g_up_n (by decide), g_up_n (by decide), g_up_n (by decide), g_up_sj, g_up_n (by decide), g_up_n (by decide)]
    show τ 3 (4 * j) = if j = n then c else σ 3 (4 * j)
    rw [t3, if_neg (by omega), if_neg (by omega), if_neg (by omega)]
    by_cases h : j = n
    · rw [if_pos (by omega), if_pos h]
    · rw [if_neg (by omega), if_neg h]
  · rw [g_up_n (by decide), g_up_n (by decide), g_up_n (by decide), g_up_sj, g_up_n (by decide), g_up_n (by decide), g_up_n (by decide)]
    show τ 3 (4 * j + 1) = if j = n then e else σ 3 (4 * j + 1)
    rw [t3, if_neg (by omega), if_neg (by omega)]
    by_cases h : j = n
    · rw [if_pos (by omega), if_pos h]
    · rw [if_neg (by omega), if_neg (by omega), if_neg h]
  · rw [g_up_n (by decide), g_up_n (by decide), g_up_sj, g_up_n (by decide), g_up_n (by decide), g_up_n (by decide), g_up_n (by decide)]
    show τ 3 (4 * j + 2) = if j = n then f else σ 3 (4 * j + 2)
    rw [t3, if_neg (by omega)]
    by_cases h : j = n
    · rw [if_pos (by omega), if_pos h]
    · rw [if_neg (by omega), if_neg (by omega), if_neg (by omega), if_neg h]
  · rw [g_up_n (by decide), g_up_sj, g_up_n (by decide), g_up_n (by decide), g_up_n (by decide), g_up_n (by decide), g_up_n (by decide)]
    show τ 3 (4 * j + 3) = if j = n then g else σ 3 (4 * j + 3)
    rw [t3]
    by_cases h : j = n
    · rw [if_pos (by omega), if_pos h]
    · rw [if_neg (by omega), if_neg (by omega), if_neg (by omega), if_neg (by omega), if_neg h]
  · rw [g_up_n (by decide), g_up_n (by decide), g_up_n (by decide), g_up_n (by decide), g_up_n (by decide), g_up_n (by decide), g_up_sj]
    show (if j < (τ 0 0).toNatClampNeg then τ 1 j else 0) = if j = n then a else if j < (σ 0 0).toNatClampNeg then σ 1 j else 0
    rw [u0, t1, hn, e1, nI_clamp (by omega), nI_clamp (by omega)]
    by_cases h : j = n
    · rw [if_pos (by omega), if_pos h, if_pos h]
    · by_cases h2 : j < n
      · rw [if_pos (by omega), if_neg h, if_neg h, if_pos h2]
      · rw [if_neg (by omega), if_neg h, if_neg h2]
  · rw [g_up_n (by decide), g_up_n (by decide), g_up_n (by decide), g_up_n (by decide), g_up_n (by decide), g_up_sj, g_up_n (by decide)]
    show (if j < (τ 0 0).toNatClampNeg then τ 2 j else 0) = if j = n then b else if j < (σ 0 0).toNatClampNeg then σ 2 j else 0
    rw [u0, t2, hn, e1, nI_clamp (by omega), nI_clamp (by omega)]
    by_cases h : j = n
    · rw [if_pos (by omega), if_pos h, if_pos h]
    · by_cases h2 : j < n
      · rw [if_pos (by omega), if_neg h, if_neg h, if_pos h2]
      · rw [if_neg (by omega), if_neg h, if_neg h2]
  · simp [mv, g_up, g_set]
theorem mB_add {σ : gS} {tn : Nat} {v : Int32} (h : σ 0 6 = nI tn) (ht : tn < 160) : mB (g_up (g_up σ 5 tn v) 0 6 (σ 0 6 + 1)) = s_add (mB σ) v := by
  have e1 : σ 0 6 + 1 = nI (tn + 1) := by rw [h, show (1 : Int32) = nI 1 from rfl, nI_add]
  have b01 : mB σ 0 1 = σ 0 6 := rfl
  unfold s_add
  rw [b01, h, nI_clamp (by omega)]
  have e2 : nI tn + 1 = nI (tn + 1) := by rw [show (1 : Int32) = nI 1 from rfl, nI_add]
  rw [e2]
  have a0 : ∀ j, g_up (g_up σ 5 tn v) 0 6 (nI (tn + 1)) 0 j = if j = 6 then nI (tn + 1) else σ 0 j := fun j => by rw [g_up_sj, g_up_n (by decide)]
  have a5 : ∀ j, g_up (g_up σ 5 tn v) 0 6 (nI (tn + 1)) 5 j = if j = tn then v else σ 5 j := fun j => by rw [g_up_n (by decide), g_up_sj]
  have ao : ∀ k, k ≠ 0 → k ≠ 5 → g_up (g_up σ 5 tn v) 0 6 (nI (tn + 1)) k = σ k := fun k h0 h5 => by rw [g_up_n h0, g_up_n h5]
  generalize g_up (g_up σ 5 tn v) 0 6 (nI (tn + 1)) = τ at a0 a5 ao
  have u9 : τ 0 9 = σ 0 9 := by rw [a0, if_neg (by decide)]
  have u6 : τ 0 6 = nI (tn + 1) := by rw [a0, if_pos rfl]
  have u11 : τ 0 11 = σ 0 11 := by rw [a0, if_neg (by decide)]
  funext a j
  rcases a with _ | _ | _ | _ | _ | _ | _ | _ | a
  · rw [g_up_sj, g_up_n (by decide)]
    show (if j = 0 then τ 0 9 else if j = 1 then τ 0 6 else if j = 2 then τ 0 11 else 0) = if j = 1 then nI (tn + 1) else (if j = 0 then σ 0 9 else if j = 1 then σ 0 6 else if j = 2 then σ 0 11 else 0)
    rw [u9, u6, u11]
    by_cases h0 : j = 0
    · simp [h0]
    · by_cases h1 : j = 1 <;> simp [h0, h1]
  · rw [g_up_n (by decide), g_up_sj]
    show (if j < (τ 0 6).toNatClampNeg then τ 5 j else 0) = if j = tn then v else (if j < (σ 0 6).toNatClampNeg then σ 5 j else 0)
    rw [u6, a5, h, nI_clamp (by omega), nI_clamp (by omega)]
    by_cases h0 : j = tn
    · rw [if_pos h0, if_pos (by omega), if_pos h0]
    · rw [if_neg h0, if_neg h0]
      by_cases h1 : j < tn
      · rw [if_pos h1, if_pos (by omega)]
      · rw [if_neg h1, if_neg (by omega)]
  · rw [g_up_n (by decide), g_up_n (by decide)]
    show (if j < 4 then τ 10 j else 0) = if j < 4 then σ 10 j else 0
    rw [ao _ (by decide) (by decide)]
  · rw [g_up_n (by decide), g_up_n (by decide)]
    show (if j < 4 then τ 11 j else 0) = if j < 4 then σ 11 j else 0
    rw [ao _ (by decide) (by decide)]
  · rw [g_up_n (by decide), g_up_n (by decide)]
    show (if j < 40 then τ 12 (40 * 0 + j) else 0) = if j < 40 then σ 12 (40 * 0 + j) else 0
    rw [ao _ (by decide) (by decide)]
  · rw [g_up_n (by decide), g_up_n (by decide)]
    show (if j < 40 then τ 12 (40 * 1 + j) else 0) = if j < 40 then σ 12 (40 * 1 + j) else 0
    rw [ao _ (by decide) (by decide)]
  · rw [g_up_n (by decide), g_up_n (by decide)]
    show (if j < 40 then τ 12 (40 * 2 + j) else 0) = if j < 40 then σ 12 (40 * 2 + j) else 0
    rw [ao _ (by decide) (by decide)]
  · rw [g_up_n (by decide), g_up_n (by decide)]
    show (if j < 40 then τ 12 (40 * 3 + j) else 0) = if j < 40 then σ 12 (40 * 3 + j) else 0
    rw [ao _ (by decide) (by decide)]
  · rw [g_up_n (by omega), g_up_n (by omega)]
    show (if τ 0 11 = 0 then fun _ => 0 else kv τ a) j = (if σ 0 11 = 0 then fun _ => 0 else kv σ a) j
    have ek : kv τ a = kv σ a := by
      unfold kv
      rw [ao 8 (by decide) (by decide), ao 9 (by decide) (by decide), ao 1 (by decide) (by decide), ao 2 (by decide) (by decide)]
    rw [u11, ek]
theorem mv_z0 {σ σ' : gS} (hk : ∀ k, 0 < k → k < 5 → σ' k = σ k) (h0 : σ' 0 0 = σ 0 0) (h10 : σ' 0 10 = σ 0 10) : mv σ' = mv σ := by
  funext a
  unfold mv
  rw [h0, h10, hk 1 (by decide) (by decide), hk 2 (by decide) (by decide), hk 3 (by decide) (by decide), hk 4 (by decide) (by decide)]
theorem Rm_add {TX : gTX} {nT n l : Nat} {P B s s' : gS} (h : Rm TX nT n l P B s) {tn : Nat} (ht : B 0 1 = nI tn) (hl : tn < 160) {v : Int32} (hv : ∃ m, m < 256 ∧ v = nI m) (e : s' = g_up (g_up s 5 tn v) 0 6 (s 0 6 + 1)) : Rm TX nT n l P (s_add B v) s' := by
  obtain ⟨h1, h2, h3⟩ := h
  have hs : s 0 6 = nI tn := by
    rw [← ht, ← h2]
    rfl
  refine ⟨?_, ?_, bI_add h3 ht hl hv⟩
  · obtain ⟨c2, c3, c4⟩ := h1
    have fr : Fr (fun k => k = 0 ∨ k = 5) s s' := fun k hk => by rw [e, g_up_n (by omega), g_up_n (by omega)]
    have f0 : ∀ j, j ≠ 6 → s' 0 j = s 0 j := fun j hj => by rw [e, g_up_sj, if_neg hj, g_up_n (by decide)]
    refine ⟨?_, c3, fun t ht => mT_fr fr (by omega) (by omega) (c4 t ht)⟩
    rw [mv_z0 (fun k a b => fr k (by omega)) (f0 0 (by decide)) (f0 10 (by decide))]
    exact c2
  · rw [e, mB_add hs hl, h2]
theorem i_sub1 (x : Int32) : (1 : Int32) - (1 - x) = x := by
  rw [Int32.sub_eq_add_neg, Int32.neg_sub]
  rw [Int32.sub_eq_add_neg, Int32.add_comm x, ← Int32.add_assoc]
  show (1 + -1 : Int32) + x = x
  have : (1 + -1 : Int32) = 0 := by decide
  rw [this, Int32.zero_add]
theorem Fr.KR {a b : gS} (h : Fr mK a b) : Qn a b := (Qm.K h).n
theorem Fr.HR {a b : gS} (h : Fr mH a b) : Qn a b := (Qm.H h).n
theorem Fr.MR {a b : gS} (h : Fr mM a b) : Qn a b := (Qm.M h).n
