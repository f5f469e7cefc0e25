theorem t_u_le {r r2 : Nat} (h : r ≤ r2) : ∀ (l out : List Nat), t_u r (t_u r2 l out).1 (t_u r2 l out).2 = t_u r l out := by
  intro l
  induction l with
  | nil => intro out; rfl
  | cons c l ih =>
    intro out
    by_cases hc : r2 ≤ t_rk c
    · have e1 : t_u r2 (c :: l) out = t_u r2 l (out ++ [c]) := if_pos hc
      have e2 : t_u r (c :: l) out = t_u r l (out ++ [c]) := if_pos (Nat.le_trans h hc)
      rw [e1, e2]
      exact ih _
    · have e1 : t_u r2 (c :: l) out = (c :: l, out) := if_neg hc
      rw [e1]
theorem t_au_mn : ∀ (l : List (Nat × Nat)) (h out : List Nat) (m1 m2 : Bool), t_au l h out false m1 = t_au l h out false m2 := by
  intro l
  induction l with
  | nil =>
    intro h out m1 m2
    unfold t_au
    rfl
  | cons a l ih =>
    obtain ⟨c, p⟩ := a
    intro h out m1 m2
    by_cases h1 : c = 42
    · subst h1
      rw [t_au_42, t_au_42]
    · by_cases h2 : c = 41
      · subst h2
        cases hz : (t_u 1 h out).1 with
        | nil => rw [t_au_41n hz, t_au_41n hz]
        | cons c2 h2 =>
          rw [t_au_41c hz, t_au_41c hz]
          exact ih _ _ _ _
      · by_cases h3 : t_isB c
        · rw [t_au_B h3, t_au_B h3]
        · rw [t_au_g h3 h1 h2, t_au_g h3 h1 h2]
def c_T (f : Nat → Int32) (e p : Nat) (a : gS) : Prop := a 3 2 = c_tk (t_c f e p) ∧ a 3 3 = nI (t_pl f e p) ∧ a 3 4 = nI (t_n f e p) ∧ (100000 ≤ t_c f e p → a 3 5 = nI (t_c f e p - 100000))
def t_okb (c : Nat) : Bool := decide (c ≤ 1) || (decide (11 ≤ c) && decide (c ≤ 18)) || (decide (20 ≤ c) && decide (c ≤ 22)) || (decide (30 ≤ c) && decide (c < 36)) || (decide (40 ≤ c) && decide (c ≤ 42))
theorem t_okb_of {c : Nat} (h : t_okc c) (h2 : c < 43) : t_okb c = true := by
  unfold t_okc at h
  unfold t_okb
  simp only [Bool.or_eq_true, Bool.and_eq_true, decide_eq_true_eq]
  omega
theorem c_tk_n0 : ∀ q, q < 43 → t_okb q = true → ¬ c_tk q = 1 := by decide +kernel
theorem c_tk_i0 : ∀ c, c < 43 → ∀ q, q < 43 → t_okb c = true → t_okb q = true → c_tk c = c_tk q → c = q := by decide +kernel
theorem c_tk_n (q : Nat) (h : q < 43) (hq : t_okc q) : ¬ c_tk q = 1 := c_tk_n0 q h (t_okb_of hq h)
theorem c_tk_i (c : Nat) (h : c < 43) (q : Nat) (h2 : q < 43) (hc : t_okc c) (hq : t_okc q) (e : c_tk c = c_tk q) : c = q := c_tk_i0 c h q h2 (t_okb_of hc h) (t_okb_of hq h2) e
theorem c_tk_v {c : Nat} (h : 100000 ≤ c) : c_tk c = 1 := if_pos h
theorem t_okc_s {c : Nat} (h : t_okc c) (h1 : ¬ 100000 ≤ c) : c < 43 := by
  unfold t_okc at h
  omega
theorem c_tk_eq {c q : Nat} (hc : t_okc c) (hq : t_okc q) (hq2 : q < 43) (h : c_tk c = c_tk q) : c = q := by
  by_cases h1 : 100000 ≤ c
  · exact absurd (h.symm.trans (c_tk_v h1)) (c_tk_n q hq2 hq)
  · exact c_tk_i c (t_okc_s hc h1) q hq2 hc hq h
theorem c_tk_1 {c : Nat} (hc : t_okc c) (h : c_tk c = 1) : 100000 ≤ c := by
  by_cases h1 : 100000 ≤ c
  · exact h1
  · exact absurd h (c_tk_n c (t_okc_s hc h1) hc)
