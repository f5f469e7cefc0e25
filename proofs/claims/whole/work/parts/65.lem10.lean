theorem t_u_id {r : Nat} {h : List Nat} (ht : t_top h < r) (out : List Nat) : t_u r h out = (h, out) := by
  cases h with
  | nil => rfl
  | cons c h =>
    have h1 : t_rk c < r := ht
    exact if_neg (by omega)
theorem t_u_eq {r r2 : Nat} {h1 o1 h o : List Nat} (hr : r ≤ r2) (e : t_u r2 h1 o1 = t_u r2 h o) : t_u r h1 o1 = t_u r h o := by
  rw [← t_u_le hr h1 o1, e, t_u_le hr h o]
theorem t_u_at {r r2 : Nat} {h1 o1 h o : List Nat} (hr : r ≤ r2) (e : t_u r2 h1 o1 = t_u r2 h o) (ht : t_top h < r) : t_u r h1 o1 = (h, o) := (t_u_eq hr e).trans (t_u_id ht o)
theorem c_T_adv {f : Nat → Int32} {e p : Nat} {s s' : gS} (h4 : s 4 = f) (h : c_N s s' ∧ s' 3 3 = nI (t_pl (s 4) e p) ∧ s' 3 4 = nI (t_n (s 4) e p) ∧ s' 3 2 = c_tk (t_c (s 4) e p) ∧ (100000 ≤ t_c (s 4) e p → s' 3 5 = nI (t_c (s 4) e p - 100000))) : c_N s s' ∧ s' 4 = f ∧ c_T f e p s' := by
  rw [h4] at h
  obtain ⟨a, b, c, d, g⟩ := h
  exact ⟨a, (a.1 4 (by decide)).trans h4, d, b, c, g⟩
