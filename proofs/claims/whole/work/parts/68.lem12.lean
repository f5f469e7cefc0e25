theorem c_cl_b : ∀ c, c < 19 → 11 ≤ c → x_cl c = -(c_tk c) := by decide +kernel
theorem c_cl_n : ∀ c, c < 36 → 30 ≤ c → x_cl (t_vc c) = -(c_tk c) := by decide +kernel
theorem c_cl_v {c : Nat} (h : 100000 ≤ c) : x_cl (t_vc c) = nI (c - 100000) := by
  have e : t_vc c = c := if_pos h
  rw [e]
  exact if_pos h
theorem c_nm0 : ∀ c, c < 43 → t_okb c = true → (¬ x_in (c_tk c) 106 111 = 0 ↔ 30 ≤ c ∧ c < 36) := by decide +kernel
theorem c_nm {c : Nat} (hc : t_okc c) (h : ¬ 100000 ≤ c) : ¬ x_in (c_tk c) 106 111 = 0 ↔ 30 ≤ c ∧ c < 36 := c_nm0 c (t_okc_s hc h) (t_okb_of hc (t_okc_s hc h))
theorem c_S_ps {s : gS} {t z0 : Nat} {a b : List Nat} (h : c_S s t z0 (a ++ b)) (ha : ∀ i c, a[i]? = some c → s (6 + 4 * t + 1) (z0 + i) = x_cl c) : c_S s t (z0 + a.length) b := by
  refine ⟨by rw [h.1, List.length_append, Nat.add_assoc], fun i c hc => ?_⟩
  have := h.2 (a.length + i) c (by rw [List.getElem?_append_right (by omega), show a.length + i - a.length = i by omega]; exact hc)
  rw [show z0 + a.length + i = z0 + (a.length + i) by omega]
  exact this
