theorem l0_eq : t_L (s_b 0) 34 0 = [(20, 0), (100050, 8), (42, 11), (21, 13), (30, 20), (42, 24), (22, 26), (100000, 31), (42, 33), (0, 34)] := by decide +kernel
theorem t_law1 {c p q : Nat} {R : List (Nat × Nat)} (hv : t_isV c) : t_au ((c, p) :: (42, q) :: R) [] [] true true = (true, R, [t_vc c]) := by
  rw [t_au_V hv]
  show t_au ((42, q) :: R) [] [t_vc c] false true = _
  rw [t_au_42]
  exact if_pos rfl
theorem l0_1 : t_r1 (t_L (s_b 0) 34 0) = (true, [(21, 13), (30, 20), (42, 24), (22, 26), (100000, 31), (42, 33), (0, 34)], [t_vc 100050]) := by
  unfold t_r1
  rw [l0_eq, t_part_c, if_pos rfl]
  exact t_law1 (Or.inl (by decide))
theorem l0_2 : t_r2 (t_L (s_b 0) 34 0) = (true, [(22, 26), (100000, 31), (42, 33), (0, 34)], [t_vc 30]) := by
  refine t_e2 l0_1 ?_
  rw [t_part_c, if_pos rfl]
  exact t_law1 (Or.inr (by decide))
theorem l0_3 : t_r3 (t_L (s_b 0) 34 0) = (true, [(0, 34)], [t_vc 100000]) := by
  refine t_e3 l0_2 ?_
  rw [t_part_c, if_pos rfl]
  exact t_law1 (Or.inl (by decide))
theorem l0_ok : t_ok (t_L (s_b 0) 34 0) := (t_f4 l0_1 l0_2 l0_3 rfl).1
noncomputable def tX0 : gTX := fun u => if u = 0 then t_cs (t_L (s_b 0) 34 0) else fun _ => []
def P00 : gS := fun a j => if a = 0 ∧ j = 2 then 1023 else 0
def B00 : gS := fun a j => if a = 0 ∧ j = 0 then 1 else if a = 2 ∧ j < 4 then -1 else 0
theorem i_pI : pI tX0 1 0 0 P00 := by
  refine ⟨rfl, by decide, rfl, by decide, by decide, fun p hp => absurd hp (by omega), fun t ht j hj => ?_, ⟨1023, by decide, rfl⟩, ⟨0, by decide, rfl⟩⟩
  rw [show t = 0 by omega]
  show x_ht (t_cs (t_L (s_b 0) 34 0) j) 0 = some 1
  exact t_ok_ht (t_L_okv _ 0 (Nat.le_refl _) (Nat.zero_le _)) l0_ok j hj
theorem i_bI : bI tX0 1 0 P00 B00 := by
  refine ⟨rfl, ⟨0, by decide, rfl⟩, fun j => ⟨0, by decide, ?_⟩, Or.inl rfl, fun s hs => Or.inl ⟨?_, ?_⟩, fun t ht => ⟨0, by decide, ?_⟩, fun h => absurd h (by decide)⟩
  · show (if 1 = 0 ∧ j = 0 then (1 : Int32) else if 1 = 2 ∧ j < 4 then -1 else 0) = 0
    rw [if_neg (by omega), if_neg (by omega)]
  · show (if 2 = 0 ∧ s = 0 then (1 : Int32) else if 2 = 2 ∧ s < 4 then -1 else 0) = -1
    rw [if_neg (by omega), if_pos ⟨rfl, hs⟩]
  · show (if 3 = 0 ∧ s = 0 then (1 : Int32) else if 3 = 2 ∧ s < 4 then -1 else 0) = 0
    rw [if_neg (by omega), if_neg (by omega)]
  · show (if 1 = 0 ∧ t = 2 then (1023 : Int32) else 0) = 0
    rw [if_neg (by omega)]
def s_m1 : Nat → Int32 := fun j => if j = 1 then -1 else 0
def s_n4 : Nat → Int32 := fun j => if j = 4 then 1023 else 0
def s_i0 : gS := fun k => if k = 30 then s_m1 else if k = 32 then s_m1 else if k = 34 then s_m1 else if k = 36 then s_m1 else if k = 45 then s_n4 else if k = 54 then s_n4 else if k = 63 then s_n4 else fun _ => 0
theorem s_m1z {j : Nat} (h : 3 ≤ j) : s_m1 j = 0 := if_neg (by omega)
theorem s_n4z {j : Nat} (h : 15 ≤ j) : s_n4 j = 0 := if_neg (by omega)
theorem s_i0_z : gz SC s_i0 := by
  intro k j h
  unfold s_i0
  by_cases h1 : k = 30
  · subst h1; rw [if_pos rfl]; exact s_m1z h
  rw [if_neg h1]
  by_cases h2 : k = 32
  · subst h2; rw [if_pos rfl]; exact s_m1z h
  rw [if_neg h2]
  by_cases h3 : k = 34
  · subst h3; rw [if_pos rfl]; exact s_m1z h
  rw [if_neg h3]
  by_cases h4 : k = 36
  · subst h4; rw [if_pos rfl]; exact s_m1z h
  rw [if_neg h4]
  by_cases h5 : k = 45
  · subst h5; rw [if_pos rfl]; exact s_n4z h
  rw [if_neg h5]
  by_cases h6 : k = 54
  · subst h6; rw [if_pos rfl]; exact s_n4z h
  rw [if_neg h6]
  by_cases h7 : k = 63
  · subst h7; rw [if_pos rfl]; exact s_n4z h
  rw [if_neg h7]
theorem i_fin {a b s1 s2 : gS} {r : Int32} (fr : ∀ k, k ≠ 3 → k ≠ 4 → a k = s_i0 k) (ha : ∀ j, j < 34 → a 4 j = s_b 0 j) (h : c_rp (a 4) 34 0 a r b) (e1 : s1 = g_up b 3 1 0) (e2 : s2 = g_up s1 0 8 1) : RC tX0 P00 B00 s2 := by
  have hl : t_L (a 4) 34 0 = t_L (s_b 0) 34 0 := t_L_cg ha 0
  obtain ⟨⟨hb, _⟩, h2⟩ := h
  rw [hl] at h2
  obtain ⟨_, _, hT⟩ := h2.resolve_right (fun y => y.1 l0_ok)
  have hk : ∀ k, 9 ≤ k → s2 k = s_i0 k := fun k hk => by
    rw [e2, g_up_n (by omega), e1, g_up_n (by omega), hb k (by omega) (by omega) (by omega) (by omega)]
    exact fr k (by omega) (by omega)
  have h0 : ∀ j, j ≠ 8 → s2 0 j = 0 := fun j hj => by
    rw [e2, g_up_sj, if_neg hj, e1, g_up_n (by decide), hb 0 (by decide) (by decide) (by decide) (by decide), fr 0 (by decide) (by decide)]
    rfl
  have h08 : s2 0 8 = 1 := by rw [e2, g_up_sj, if_pos rfl]
  have h31 : s2 3 1 = 0 := by rw [e2, g_up_n (by decide), e1, g_up_sj, if_pos rfl]
  refine ⟨1, 0, 0, ⟨⟨Or.inl rfl, ?_, i_pI, fun t ht => ?_⟩, ?_, i_bI⟩⟩
  · funext x j
    rcases x with _ | _ | _ | _ | _ | _ | _ | _ | x
    · show (if j < 5 then s2 45 (2 + j) else 0) = if 0 = 0 ∧ j = 2 then 1023 else 0
      rw [hk 45 (by decide)]
      show (if j < 5 then (if 2 + j = 4 then (1023 : Int32) else 0) else 0) = _
      by_cases hj : j = 2
      · subst hj; rfl
      · rw [if_neg (show ¬ (0 = 0 ∧ j = 2) by omega), if_neg (show ¬ 2 + j = 4 by omega)]
        split <;> rfl
    · show s2 46 j = if 1 = 0 ∧ j = 2 then 1023 else 0
      rw [hk 46 (by decide), if_neg (by omega)]
      rfl
    · show s2 47 j = if 2 = 0 ∧ j = 2 then 1023 else 0
      rw [hk 47 (by decide), if_neg (by omega)]
      rfl
    · show s2 48 j = if 3 = 0 ∧ j = 2 then 1023 else 0
      rw [hk 48 (by decide), if_neg (by omega)]
      rfl
    · show s2 49 j = if 4 = 0 ∧ j = 2 then 1023 else 0
      rw [hk 49 (by decide), if_neg (by omega)]
      rfl
    · show s2 50 j = if 5 = 0 ∧ j = 2 then 1023 else 0
      rw [hk 50 (by decide), if_neg (by omega)]
      rfl
    · show (if j < (s2 45 6).toNatClampNeg then s2 51 j else 0) = if 6 = 0 ∧ j = 2 then 1023 else 0
      rw [hk 51 (by decide), if_neg (show ¬ (6 = 0 ∧ j = 2) by omega)]
      split <;> rfl
    · show (if j < (s2 45 6).toNatClampNeg then s2 52 j else 0) = if 7 = 0 ∧ j = 2 then 1023 else 0
      rw [hk 52 (by decide), if_neg (show ¬ (7 = 0 ∧ j = 2) by omega)]
      split <;> rfl
    · show (0 : Int32) = if x + 8 = 0 ∧ j = 2 then 1023 else 0
      rw [if_neg (by omega)]
  · rw [show t = 0 by omega]
    have hT2 : cT (fun _ => t_cs (t_L (s_b 0) 34 0)) s2 0 := by
      unfold cT at hT ⊢
      rw [e2, g_up_n (by decide), g_up_n (by decide), e1, g_up_n (by decide), g_up_n (by decide)]
      exact hT
    exact cT_cg rfl hT2
  · funext x j
    rcases x with _ | _ | _ | _ | _ | _ | _ | _ | x
    · show (if j = 0 then s2 0 8 else if j = 1 then s2 3 1 else if j = 2 then s2 0 7 else 0) = if 0 = 0 ∧ j = 0 then 1 else if 0 = 2 ∧ j < 4 then -1 else 0
      rw [h08, h31, h0 7 (by decide)]
      by_cases hj : j = 0
      · rw [if_pos hj, if_pos ⟨rfl, hj⟩]
      · rw [if_neg hj, if_neg (show ¬ (0 = 0 ∧ j = 0) by omega), if_neg (show ¬ (0 = 2 ∧ j < 4) by omega)]
        repeat' split
        all_goals rfl
    · show (if j < (s2 3 1).toNatClampNeg then s2 4 j else 0) = if 1 = 0 ∧ j = 0 then 1 else if 1 = 2 ∧ j < 4 then -1 else 0
      rw [h31, if_neg (show ¬ (1 = 0 ∧ j = 0) by omega), if_neg (show ¬ (1 = 2 ∧ j < 4) by omega)]
      exact if_neg (Nat.not_lt_zero j)
    · show (if j < 4 then s2 (30 + 2 * j) 1 else 0) = if 2 = 0 ∧ j = 0 then 1 else if 2 = 2 ∧ j < 4 then -1 else 0
      rw [hk (30 + 2 * j) (by omega), if_neg (show ¬ (2 = 0 ∧ j = 0) by omega)]
      by_cases hj : j < 4
      · rw [if_pos hj, if_pos ⟨rfl, hj⟩]
        have : j = 0 ∨ j = 1 ∨ j = 2 ∨ j = 3 := by omega
        rcases this with rfl | rfl | rfl | rfl <;> rfl
      · rw [if_neg hj, if_neg (fun z => hj z.2)]
    · show (if j < 4 then s2 (30 + 2 * j) 2 else 0) = if 3 = 0 ∧ j = 0 then 1 else if 3 = 2 ∧ j < 4 then -1 else 0
      rw [hk (30 + 2 * j) (by omega), if_neg (show ¬ (3 = 0 ∧ j = 0) by omega), if_neg (show ¬ (3 = 2 ∧ j < 4) by omega)]
      by_cases hj : j < 4
      · rw [if_pos hj]
        have : j = 0 ∨ j = 1 ∨ j = 2 ∨ j = 3 := by omega
        rcases this with rfl | rfl | rfl | rfl <;> rfl
      · rw [if_neg hj]
    · show (if j < 40 then s2 31 j else 0) = if 4 = 0 ∧ j = 0 then 1 else if 4 = 2 ∧ j < 4 then -1 else 0
      rw [hk 31 (by decide), if_neg (show ¬ (4 = 0 ∧ j = 0) by omega), if_neg (show ¬ (4 = 2 ∧ j < 4) by omega)]
      split <;> rfl
    · show (if j < 40 then s2 33 j else 0) = if 5 = 0 ∧ j = 0 then 1 else if 5 = 2 ∧ j < 4 then -1 else 0
      rw [hk 33 (by decide), if_neg (show ¬ (5 = 0 ∧ j = 0) by omega), if_neg (show ¬ (5 = 2 ∧ j < 4) by omega)]
      split <;> rfl
    · show (if j < 40 then s2 35 j else 0) = if 6 = 0 ∧ j = 0 then 1 else if 6 = 2 ∧ j < 4 then -1 else 0
      rw [hk 35 (by decide), if_neg (show ¬ (6 = 0 ∧ j = 0) by omega), if_neg (show ¬ (6 = 2 ∧ j < 4) by omega)]
      split <;> rfl
    · show (if j < 40 then s2 37 j else 0) = if 7 = 0 ∧ j = 0 then 1 else if 7 = 2 ∧ j < 4 then -1 else 0
      rw [hk 37 (by decide), if_neg (show ¬ (7 = 0 ∧ j = 0) by omega), if_neg (show ¬ (7 = 2 ∧ j < 4) by omega)]
      split <;> rfl
    · show (if s2 0 7 = 0 then fun _ => 0 else cv s2 63 x) j = if x + 8 = 0 ∧ j = 0 then 1 else if x + 8 = 2 ∧ j < 4 then -1 else 0
      rw [h0 7 (by decide), if_pos rfl, if_neg (by omega), if_neg (by omega)]
def s_m4 : Nat → Int32 := fun j => if j = 2 then 1023 else 0
def s_m10 : Nat → Int32 := fun j => if j < 4 then -1 else 0
def m_i0 : gS := fun k => if k = 4 then s_m4 else if k = 10 then s_m10 else if k = 13 then s_b 0 else fun _ => 0
theorem s_b0z {j : Nat} (h : 34 ≤ j) : s_b 0 j = 0 := by
  show sLaw.getD j 0 = 0
  rw [List.getD_eq_getElem?_getD, List.getElem?_eq_none (show sLaw.length ≤ j from h)]
  rfl
theorem m_i0_z : gz SM m_i0 := by
  intro k j h
  unfold m_i0
  by_cases h1 : k = 4
  · subst h1
    rw [if_pos rfl]
    have h2 : 13 ≤ j := h
    exact if_neg (by omega)
  rw [if_neg h1]
  by_cases h2 : k = 10
  · subst h2
    rw [if_pos rfl]
    have h3 : 4 ≤ j := h
    exact if_neg (by omega)
  rw [if_neg h2]
  by_cases h3 : k = 13
  · subst h3
    rw [if_pos rfl]
    exact s_b0z h
  rw [if_neg h3]
theorem m_fin {a b : gS} {r : Int32} (fr : ∀ k, k ≠ 0 → k ≠ 5 → a k = m_i0 k) (f0 : ∀ j, j ≠ 6 → a 0 j = 0) (ha : ∀ j, j < 34 → a 5 j = s_b 0 j) (h : t_post a 0 34 r b) : RM tX0 P00 B00 b := by
  have hl : t_L (a 5) 34 0 = t_L (s_b 0) 34 0 := t_L_cg ha 0
  obtain ⟨_, ⟨hb, hb0, _, _⟩, h06, h2⟩ := h.resolve_left (fun y => absurd y.1 (by decide))
  rw [hl] at h2
  obtain ⟨_, _, h09, hT⟩ := h2.resolve_right (fun y => y.1 l0_ok)
  have hk : ∀ k, k ≠ 0 → k ≠ 5 → k ≠ 6 → k ≠ 7 → k ≠ 15 → b k = m_i0 k := fun k h0 h5 h6 h7 h15 => (hb k h0 h6 h7 h15).trans (fr k h0 h5)
  have h0 : ∀ j, ¬ (18 ≤ j ∧ j < 27) → j ≠ 6 → j ≠ 9 → b 0 j = 0 := fun j h1 h2 h3 => (hb0 j h1 h2 h3).trans (f0 j h2)
  refine ⟨1, 0, 0, ⟨⟨?_, i_pI, fun t ht => ?_⟩, ?_, i_bI⟩⟩
  · funext x j
    rcases x with _ | _ | _ | _ | _ | _ | _ | _ | x
    · show (if j = 0 then b 4 0 else if j = 1 then b 4 1 else if j = 2 then b 4 2 else if j = 3 then b 0 10 else if j = 4 then b 0 0 else 0) = if 0 = 0 ∧ j = 2 then 1023 else 0
      rw [hk 4 (by decide) (by decide) (by decide) (by decide) (by decide), h0 10 (by decide) (by decide) (by decide), h0 0 (by decide) (by decide) (by decide)]
      by_cases hj : j = 2
      · subst hj; rfl
      · rw [if_neg (show ¬ (0 = 0 ∧ j = 2) by omega), if_neg hj]
        repeat' split
        all_goals rfl
    · show b 4 (3 + j) = if 1 = 0 ∧ j = 2 then 1023 else 0
      rw [hk 4 (by decide) (by decide) (by decide) (by decide) (by decide), if_neg (by omega)]
      show (if 3 + j = 2 then (1023 : Int32) else 0) = 0
      exact if_neg (by omega)
    · show b 3 (4 * j) = if 2 = 0 ∧ j = 2 then 1023 else 0
      rw [hk 3 (by decide) (by decide) (by decide) (by decide) (by decide), if_neg (by omega)]
      rfl
    · show b 3 (4 * j + 1) = if 3 = 0 ∧ j = 2 then 1023 else 0
      rw [hk 3 (by decide) (by decide) (by decide) (by decide) (by decide), if_neg (by omega)]
      rfl
    · show b 3 (4 * j + 2) = if 4 = 0 ∧ j = 2 then 1023 else 0
      rw [hk 3 (by decide) (by decide) (by decide) (by decide) (by decide), if_neg (by omega)]
      rfl
    · show b 3 (4 * j + 3) = if 5 = 0 ∧ j = 2 then 1023 else 0
      rw [hk 3 (by decide) (by decide) (by decide) (by decide) (by decide), if_neg (by omega)]
      rfl
    · show (if j < (b 0 0).toNatClampNeg then b 1 j else 0) = if 6 = 0 ∧ j = 2 then 1023 else 0
      rw [hk 1 (by decide) (by decide) (by decide) (by decide) (by decide), if_neg (show ¬ (6 = 0 ∧ j = 2) by omega)]
      split <;> rfl
    · show (if j < (b 0 0).toNatClampNeg then b 2 j else 0) = if 7 = 0 ∧ j = 2 then 1023 else 0
      rw [hk 2 (by decide) (by decide) (by decide) (by decide) (by decide), if_neg (show ¬ (7 = 0 ∧ j = 2) by omega)]
      split <;> rfl
    · show (0 : Int32) = if x + 8 = 0 ∧ j = 2 then 1023 else 0
      rw [if_neg (by omega)]
  · rw [show t = 0 by omega]
    exact mT_cg rfl hT
  · funext x j
    rcases x with _ | _ | _ | _ | _ | _ | _ | _ | x
    · show (if j = 0 then b 0 9 else if j = 1 then b 0 6 else if j = 2 then b 0 11 else 0) = if 0 = 0 ∧ j = 0 then 1 else if 0 = 2 ∧ j < 4 then -1 else 0
      rw [h09, h06, h0 11 (by decide) (by decide) (by decide)]
      by_cases hj : j = 0
      · rw [if_pos hj, if_pos ⟨rfl, hj⟩]
        rfl
      · rw [if_neg hj, if_neg (show ¬ (0 = 0 ∧ j = 0) by omega), if_neg (show ¬ (0 = 2 ∧ j < 4) by omega)]
        repeat' split
        all_goals rfl
    · show (if j < (b 0 6).toNatClampNeg then b 5 j else 0) = if 1 = 0 ∧ j = 0 then 1 else if 1 = 2 ∧ j < 4 then -1 else 0
      rw [h06, if_neg (show ¬ (1 = 0 ∧ j = 0) by omega), if_neg (show ¬ (1 = 2 ∧ j < 4) by omega)]
      exact if_neg (Nat.not_lt_zero j)
    · show (if j < 4 then b 10 j else 0) = if 2 = 0 ∧ j = 0 then 1 else if 2 = 2 ∧ j < 4 then -1 else 0
      rw [hk 10 (by decide) (by decide) (by decide) (by decide) (by decide), if_neg (show ¬ (2 = 0 ∧ j = 0) by omega)]
      show (if j < 4 then (if j < 4 then (-1 : Int32) else 0) else 0) = _
      by_cases hj : j < 4
      · rw [if_pos hj, if_pos (show 2 = 2 ∧ j < 4 from ⟨rfl, hj⟩), if_pos hj]
      · rw [if_neg hj, if_neg (fun z => hj z.2)]
    · show (if j < 4 then b 11 j else 0) = if 3 = 0 ∧ j = 0 then 1 else if 3 = 2 ∧ j < 4 then -1 else 0
      rw [hk 11 (by decide) (by decide) (by decide) (by decide) (by decide), if_neg (show ¬ (3 = 0 ∧ j = 0) by omega), if_neg (show ¬ (3 = 2 ∧ j < 4) by omega)]
      split <;> rfl
    · show (if j < 40 then b 12 (40 * 0 + j) else 0) = if 4 = 0 ∧ j = 0 then 1 else if 4 = 2 ∧ j < 4 then -1 else 0
      rw [hk 12 (by decide) (by decide) (by decide) (by decide) (by decide), if_neg (show ¬ (4 = 0 ∧ j = 0) by omega), if_neg (show ¬ (4 = 2 ∧ j < 4) by omega)]
      split <;> rfl
    · show (if j < 40 then b 12 (40 * 1 + j) else 0) = if 5 = 0 ∧ j = 0 then 1 else if 5 = 2 ∧ j < 4 then -1 else 0
      rw [hk 12 (by decide) (by decide) (by decide) (by decide) (by decide), if_neg (show ¬ (5 = 0 ∧ j = 0) by omega), if_neg (show ¬ (5 = 2 ∧ j < 4) by omega)]
      split <;> rfl
    · show (if j < 40 then b 12 (40 * 2 + j) else 0) = if 6 = 0 ∧ j = 0 then 1 else if 6 = 2 ∧ j < 4 then -1 else 0
      rw [hk 12 (by decide) (by decide) (by decide) (by decide) (by decide), if_neg (show ¬ (6 = 0 ∧ j = 0) by omega), if_neg (show ¬ (6 = 2 ∧ j < 4) by omega)]
      split <;> rfl
    · show (if j < 40 then b 12 (40 * 3 + j) else 0) = if 7 = 0 ∧ j = 0 then 1 else if 7 = 2 ∧ j < 4 then -1 else 0
      rw [hk 12 (by decide) (by decide) (by decide) (by decide) (by decide), if_neg (show ¬ (7 = 0 ∧ j = 0) by omega), if_neg (show ¬ (7 = 2 ∧ j < 4) by omega)]
      split <;> rfl
    · show (if b 0 11 = 0 then fun _ => 0 else kv b x) j = if x + 8 = 0 ∧ j = 0 then 1 else if x + 8 = 2 ∧ j < 4 then -1 else 0
      rw [h0 11 (by decide) (by decide) (by decide), if_pos rfl, if_neg (by omega), if_neg (by omega)]
