def t_G (t z0 : Nat) (a b : gS) : Prop := (∀ k, k ≠ 0 → k ≠ 6 → k ≠ 15 → b k = a k) ∧ (∀ j, ¬ (18 ≤ j ∧ j < 27) ∨ (22 ≤ j ∧ j < 24) → b 0 j = a 0 j) ∧ ∀ j, ¬ (200 * t + z0 ≤ j ∧ j < 200 * t + 200) → b 6 j = a 6 j
theorem t_G.rf {t z0 : Nat} {a : gS} : t_G t z0 a a := ⟨fun _ _ _ _ => rfl, fun _ _ => rfl, fun _ _ => rfl⟩
theorem t_G.tr {t z0 : Nat} {a b c : gS} (h : t_G t z0 a b) (g : t_G t z0 b c) : t_G t z0 a c := ⟨fun k h1 h2 h3 => (g.1 k h1 h2 h3).trans (h.1 k h1 h2 h3), fun j h1 => (g.2.1 j h1).trans (h.2.1 j h1), fun j hj => (g.2.2 j hj).trans (h.2.2 j hj)⟩
theorem t_F.G {t z0 : Nat} {a b : gS} (h : t_F t z0 a b) : t_G t z0 a b := ⟨h.1, fun j hj => h.2.1 j (by omega) (by omega) (by omega), h.2.2⟩
theorem t_N.G {t z0 : Nat} {a b : gS} (h : t_N a b) : t_G t z0 a b := ⟨fun k h0 _ _ => h.1 k h0, fun j hj => h.2 j (by omega), fun j _ => by rw [h.1 6 (by decide)]⟩
theorem t_S_N {t z0 : Nat} {h cs : List Nat} {a b : gS} (hS : t_S a t z0 h cs) (g : t_N a b) : t_S b t z0 h cs := by
  obtain ⟨h1, h2, h3, h4, h5, h6⟩ := hS
  refine ⟨(g.2 9 (by decide)).trans h1, (g.2 24 (by decide)).trans h2, (g.2 25 (by decide)).trans h3, (g.2 26 (by decide)).trans h4, by rw [g.1 15 (by decide)]; exact h5, fun i c hc => by rw [g.1 6 (by decide)]; exact h6 i c hc⟩
theorem t_ooF {t z0 : Nat} {h cs : List Nat} {r : Int32} {c : Nat} {a b : gS} (q : (t_op h = 5 → r = 0 ∧ b = a) ∧ (¬ t_op h = 5 → r = 1 ∧ t_S b t z0 (c :: h) cs ∧ t_F t z0 a b)) : t_F t z0 a b := by
  by_cases z : t_op h = 5
  · rw [(q.1 z).2]
    exact t_F.rf
  · exact (q.2 z).2.2
def t_okc (c : Nat) : Prop := 100000 ≤ c ∨ c ≤ 1 ∨ (11 ≤ c ∧ c ≤ 18) ∨ (20 ≤ c ∧ c ≤ 22) ∨ (30 ≤ c ∧ c < 36) ∨ (40 ≤ c ∧ c ≤ 42)
theorem t_sg_ok (x : Int32) : t_okc (t_sg x) := by
  unfold t_sg t_okc
  repeat' split
  all_goals omega
theorem t_kc_ok : ∀ k, k < 12 → (t_kc k ≤ 1 ∨ (11 ≤ t_kc k ∧ t_kc k ≤ 18) ∨ (20 ≤ t_kc k ∧ t_kc k ≤ 22) ∨ (30 ≤ t_kc k ∧ t_kc k < 36)) := by decide +kernel
theorem t_c_ok (f : Nat → Int32) (e p : Nat) : t_okc (t_c f e p) := by
  unfold t_c
  by_cases h : t_pl f e p < e
  · rw [if_pos h]
    generalize t_pl f e p = i
    unfold t_cd
    split
    · split
      · exact t_sg_ok _
      · split
        · exact Or.inr (Or.inl (by omega))
        · exact Or.inl (by omega)
    · by_cases hk : ∃ k, k < 12 ∧ t_is f i (t_end f e 97 122 i - i) (t_wd k) = true
      · obtain ⟨k, hk1, hk2⟩ := hk
        rw [t_kw_yes hk1 hk2]
        have := t_kc_ok k hk1
        unfold t_okc
        omega
      · rw [t_kw_no (fun k h1 h2 => hk ⟨k, h1, h2⟩)]
        exact Or.inr (Or.inl (by omega))
  · rw [if_neg h]
    exact Or.inr (Or.inl (by omega))
theorem t_Lx {f : Nat → Int32} {e p : Nat} (hp : p ≤ e) : ∃ T, t_L f e p = (t_c f e p, t_pl f e p) :: T ∧ (¬ t_c f e p = 0 → T = t_L f e (t_n f e p) ∧ p < t_n f e p ∧ t_n f e p ≤ e) := by
  by_cases h : t_pl f e p < e
  · have h1 := t_pl_ge f e p
    have h2 := t_nx_gt (f := f) h
    have h3 := t_nx_le (f := f) h
    refine ⟨t_L f e (t_nx f e (t_pl f e p)), ?_, fun _ => ?_⟩
    · rw [t_L_c h]
      unfold t_c
      rw [if_pos h]
    · unfold t_n
      rw [if_pos h]
      exact ⟨rfl, by omega, h3⟩
  · refine ⟨[], ?_, fun z => ?_⟩
    · rw [t_L_e h hp]
      unfold t_c
      rw [if_neg h]
    · unfold t_c at z
      rw [if_neg h] at z
      exact absurd rfl z
theorem t_au_V {c p : Nat} {l : List (Nat × Nat)} {h out : List Nat} {mn : Bool} (hv : t_isV c) : t_au ((c, p) :: l) h out true mn = t_au l (t_u 7 h (out ++ [t_vc c])).1 (t_u 7 h (out ++ [t_vc c])).2 false mn := if_pos hv
theorem t_au_13 {p : Nat} {l : List (Nat × Nat)} {h out : List Nat} : t_au ((13, p) :: l) h out true true = if t_op h = 5 then (false, (13, p) :: l, out) else t_au l (13 :: h) out true true := by
  conv => lhs; unfold t_au
  rw [if_neg (by unfold t_isV; omega), if_pos ⟨rfl, rfl⟩]
theorem t_au_17 {p : Nat} {l : List (Nat × Nat)} {h out : List Nat} {mn : Bool} : t_au ((17, p) :: l) h out true mn = if t_op h = 5 then (false, (17, p) :: l, out) else t_au l (19 :: h) out true false := by
  conv => lhs; unfold t_au
  rw [if_neg (by unfold t_isV; omega), if_neg (fun z => absurd z.1 (by decide)), if_pos rfl]
theorem t_au_40 {p : Nat} {l : List (Nat × Nat)} {h out : List Nat} {mn : Bool} : t_au ((40, p) :: l) h out true mn = if t_op h = 5 then (false, (40, p) :: l, out) else t_au l (0 :: h) out true true := by
  conv => lhs; unfold t_au
  rw [if_neg (by unfold t_isV; omega), if_neg (fun z => absurd z.1 (by decide)), if_neg (by decide), if_pos rfl]
theorem t_au_f {c p : Nat} {l : List (Nat × Nat)} {h out : List Nat} {mn : Bool} (h1 : ¬ t_isV c) (h2 : ¬ (c = 13 ∧ mn = true)) (h3 : ¬ c = 17) (h4 : ¬ c = 40) : t_au ((c, p) :: l) h out true mn = (false, (c, p) :: l, out) := by
  conv => lhs; unfold t_au
  rw [if_neg h1, if_neg h2, if_neg h3, if_neg h4]
theorem t_au_42 {p : Nat} {l : List (Nat × Nat)} {h out : List Nat} {mn : Bool} : t_au ((42, p) :: l) h out false mn = if (t_u 1 h out).1 = [] then (true, l, (t_u 1 h out).2) else (false, (42, p) :: l, out) := by
  conv => lhs; unfold t_au
  rw [if_pos rfl]
theorem t_au_41n {p : Nat} {l : List (Nat × Nat)} {h out : List Nat} {mn : Bool} (hu : (t_u 1 h out).1 = []) : t_au ((41, p) :: l) h out false mn = (false, (41, p) :: l, out) := by
  conv => lhs; unfold t_au
  rw [if_neg (by decide), if_pos rfl]
  simp only [hu]
theorem t_au_41c {p c : Nat} {l : List (Nat × Nat)} {h h2 out : List Nat} {mn : Bool} (hu : (t_u 1 h out).1 = c :: h2) : t_au ((41, p) :: l) h out false mn = t_au l (t_u 7 h2 (t_u 1 h out).2).1 (t_u 7 h2 (t_u 1 h out).2).2 false mn := by
  conv => lhs; unfold t_au
  rw [if_neg (by decide), if_pos rfl]
  simp only [hu]
theorem t_au_B {c p : Nat} {l : List (Nat × Nat)} {h out : List Nat} {mn : Bool} (hB : t_isB c) : t_au ((c, p) :: l) h out false mn = if t_rk c = 4 ∧ t_top (t_u (if t_rk c = 4 then 5 else t_rk c) h out).1 = 4 then (false, (c, p) :: l, out) else t_au l (c :: (t_u (if t_rk c = 4 then 5 else t_rk c) h out).1) (t_u (if t_rk c = 4 then 5 else t_rk c) h out).2 true (decide (c ≤ 12)) := by
  conv => lhs; unfold t_au
  have hB2 := hB
  unfold t_isB at hB2
  rw [if_neg (by omega), if_neg (by omega), if_pos hB]
theorem t_au_g {c p : Nat} {l : List (Nat × Nat)} {h out : List Nat} {mn : Bool} (h1 : ¬ t_isB c) (h2 : ¬ c = 42) (h3 : ¬ c = 41) : t_au ((c, p) :: l) h out false mn = (false, (c, p) :: l, out) := by
  conv => lhs; unfold t_au
  rw [if_neg h2, if_neg h3, if_neg h1]
theorem t_u_top (r : Nat) : ∀ (h out : List Nat) (c : Nat) (l : List Nat), (t_u r h out).1 = c :: l → t_rk c < r := by
  intro h
  induction h with
  | nil => intro out c l hc; exact absurd hc (by unfold t_u; simp)
  | cons a h ih =>
    intro out c l hc
    unfold t_u at hc
    split at hc
    · exact ih _ c l hc
    · simp only at hc
      cases hc
      omega
theorem t_rk0 {c : Nat} (h : t_rk c < 1) : c = 0 := by
  unfold t_rk at h
  split at h
  · assumption
  · repeat' split at h
    all_goals omega
