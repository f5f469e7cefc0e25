def c_J (t : Nat) (a b : gS) : Prop := (∀ k, k ≠ 0 → k ≠ 3 → k ≠ 6 + 4 * t → k ≠ 6 + 4 * t + 1 → k ≠ 6 + 4 * t + 2 → b k = a k) ∧ ∀ j, j ≠ 8 → b 0 j = a 0 j
theorem cB_te {s s' : gS} {t : Nat} (ht : t < 6) (h : c_J t s s') (h6 : s' 3 1 = 0) : cB s' = s_teU (cB s) (s' 0 8) := by
  have z7 : s' 0 7 = s 0 7 := h.2 7 (by decide)
  have ao : ∀ k, 30 ≤ k → s' k = s k := fun k hk => h.1 k (by omega) (by omega) (by omega) (by omega) (by omega)
  funext a j
  rcases a with _ | _ | _ | _ | _ | _ | _ | _ | a
  · rw [s_teU_0]
    show (if j = 0 then s' 0 8 else if j = 1 then s' 3 1 else if j = 2 then s' 0 7 else 0) = if j = 0 then s' 0 8 else if j = 1 then 0 else (if j = 0 then s 0 8 else if j = 1 then s 3 1 else if j = 2 then s 0 7 else 0)
    rw [h6, z7]
    by_cases h0 : j = 0
    · rw [if_pos h0, if_pos h0]
    · by_cases h1 : j = 1
      · rw [if_neg h0, if_pos h1, if_neg h0, if_pos h1]
      · rw [if_neg h0, if_neg h1, if_neg h0, if_neg h1, if_neg h0, if_neg h1]
  · rw [s_teU_1]
    show (if j < (s' 3 1).toNatClampNeg then s' 4 j else 0) = 0
    rw [h6]
    exact if_neg (Nat.not_lt_zero j)
  · rw [s_teU_n (by decide) (by decide)]
    show (if j < 4 then s' (30 + 2 * j) 1 else 0) = if j < 4 then s (30 + 2 * j) 1 else 0
    rw [ao _ (by omega)]
  · rw [s_teU_n (by decide) (by decide)]
    show (if j < 4 then s' (30 + 2 * j) 2 else 0) = if j < 4 then s (30 + 2 * j) 2 else 0
    rw [ao _ (by omega)]
  · rw [s_teU_n (by decide) (by decide)]
    show (if j < 40 then s' 31 j else 0) = if j < 40 then s 31 j else 0
    rw [ao _ (by decide)]
  · rw [s_teU_n (by decide) (by decide)]
    show (if j < 40 then s' 33 j else 0) = if j < 40 then s 33 j else 0
    rw [ao _ (by decide)]
  · rw [s_teU_n (by decide) (by decide)]
    show (if j < 40 then s' 35 j else 0) = if j < 40 then s 35 j else 0
    rw [ao _ (by decide)]
  · rw [s_teU_n (by decide) (by decide)]
    show (if j < 40 then s' 37 j else 0) = if j < 40 then s 37 j else 0
    rw [ao _ (by decide)]
  · rw [s_teU_n (by omega) (by omega)]
    show (if s' 0 7 = 0 then fun _ => 0 else cv s' 63 a) j = (if s 0 7 = 0 then fun _ => 0 else cv s 63 a) j
    have ek : cv s' 63 a = cv s 63 a := by
      unfold cv
      rw [ao 63 (by decide), ao (63 + 1) (by decide), ao (63 + 2) (by decide), ao (63 + 3) (by decide), ao (63 + 4) (by decide), ao (63 + 5) (by decide), ao (63 + 6) (by decide), ao (63 + 7) (by decide)]
    rw [z7, ek]
theorem cv_J {s s' : gS} {t : Nat} (ht : t < 6) (h : c_J t s s') : cv s' 45 = cv s 45 := by
  have ao : ∀ k, 30 ≤ k → s' k = s k := fun k hk => h.1 k (by omega) (by omega) (by omega) (by omega) (by omega)
  funext a
  unfold cv
  rw [ao 45 (by decide), ao (45 + 1) (by decide), ao (45 + 2) (by decide), ao (45 + 3) (by decide), ao (45 + 4) (by decide), ao (45 + 5) (by decide), ao (45 + 6) (by decide), ao (45 + 7) (by decide)]
theorem cT_J {TX : gTX} {t u : Nat} {s s' : gS} (h : c_J t s s') (hu : u < t) (hT : cT TX s u) : cT TX s' u := by
  unfold cT at hT ⊢
  rw [h.1 (6 + 4 * u + 2) (by omega) (by omega) (by omega) (by omega) (by omega), h.1 (6 + 4 * u + 1) (by omega) (by omega) (by omega) (by omega) (by omega)]
  exact hT
theorem cT_cg {TX TX' : gTX} {t : Nat} {τ : gS} (h : TX t = TX' t) (hT : cT TX τ t) : cT TX' τ t := by
  unfold cT at hT ⊢
  rw [← h]
  exact hT
