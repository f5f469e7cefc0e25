def t_hs (f : Nat → Int32) : List Nat → Prop
  | [] => True
  | c :: r => f r.length = nI c ∧ t_hs f r
def t_S (a : gS) (t z0 : Nat) (h cs : List Nat) : Prop := a 0 9 = nI t ∧ a 0 24 = nI h.length ∧ a 0 25 = nI (t_op h) ∧ a 0 26 = nI (z0 + cs.length) ∧ t_hs (a 15) h ∧ ∀ i c, cs[i]? = some c → a 6 (200 * t + z0 + i) = nI c
def t_F (t z0 : Nat) (a b : gS) : Prop := (∀ k, k ≠ 0 → k ≠ 6 → k ≠ 15 → b k = a k) ∧ (∀ j, j ≠ 24 → j ≠ 25 → j ≠ 26 → b 0 j = a 0 j) ∧ ∀ j, ¬ (200 * t + z0 ≤ j ∧ j < 200 * t + 200) → b 6 j = a 6 j
theorem t_F.rf {t z0 : Nat} {a : gS} : t_F t z0 a a := ⟨fun _ _ _ _ => rfl, fun _ _ _ _ => rfl, fun _ _ => rfl⟩
theorem t_F.tr {t z0 : Nat} {a b c : gS} (h : t_F t z0 a b) (g : t_F t z0 b c) : t_F t z0 a c := ⟨fun k h1 h2 h3 => (g.1 k h1 h2 h3).trans (h.1 k h1 h2 h3), fun j h1 h2 h3 => (g.2.1 j h1 h2 h3).trans (h.2.1 j h1 h2 h3), fun j hj => (g.2.2 j hj).trans (h.2.2 j hj)⟩
theorem t_hs_upd {f : Nat → Int32} {k : Nat} {v : Int32} : ∀ {r : List Nat}, r.length ≤ k → t_hs f r → t_hs (upd f k v) r := by
  intro r
  induction r with
  | nil => intro _ _; trivial
  | cons a r ih =>
    intro h hs
    simp only [List.length_cons] at h
    exact ⟨by show (if r.length = k then v else f r.length) = nI a; rw [if_neg (by omega)]; exact hs.1, ih (by omega) hs.2⟩
theorem t_u_len (r : Nat) : ∀ (h out : List Nat), (t_u r h out).1.length + (t_u r h out).2.length = h.length + out.length := by
  intro h
  induction h with
  | nil => intro out; rfl
  | cons c h ih =>
    intro out
    unfold t_u
    split
    · rw [ih]
      simp only [List.length_append, List.length_cons, List.length_nil]
      omega
    · rfl
theorem t_u_mem (r : Nat) : ∀ (h out : List Nat) (c : Nat), c ∈ (t_u r h out).1 → c ∈ h := by
  intro h
  induction h with
  | nil => intro out c hc; exact hc
  | cons a h ih =>
    intro out c hc
    unfold t_u at hc
    split at hc
    · exact List.mem_cons_of_mem _ (ih _ c hc)
    · exact hc
theorem t_mt_key (c : Nat) : (t_mt c = 1 ∧ (100000 ≤ c)) ∨ (t_mt c = 40 ∧ (c = 40)) ∨ (t_mt c = 41 ∧ (c = 41)) ∨ (t_mt c = 59 ∧ (c = 42)) ∨ (t_mt c = 2 ∧ (30 ≤ c ∧ c < 100000)) ∨ (t_mt c = 3 ∧ (20 ≤ c ∧ c < 30)) ∨ (t_mt c = 4 ∧ (c = 11)) ∨ (t_mt c = 5 ∧ (c = 12)) ∨ (t_mt c = 6 ∧ (c = 13)) ∨ (t_mt c = 60 ∧ (c = 14)) ∨ (t_mt c = 61 ∧ (c = 15)) ∨ (t_mt c = 43 ∧ (c = 16)) ∨ (t_mt c = 45 ∧ (c = 17)) ∨ (t_mt c = 42 ∧ (c = 18)) ∨ (t_mt c = 0 ∧ (c = 0)) ∨ t_mt c = -1 := by
  unfold t_mt
  by_cases h0 : 100000 ≤ c
  · exact Or.inl ⟨by rw [if_pos h0], h0⟩
  by_cases h1 : c = 40
  · exact Or.inr (Or.inl ⟨by rw [if_neg h0, if_pos h1], h1⟩)
  by_cases h2 : c = 41
  · exact Or.inr (Or.inr (Or.inl ⟨by rw [if_neg h0, if_neg h1, if_pos h2], h2⟩))
  by_cases h3 : c = 42
  · exact Or.inr (Or.inr (Or.inr (Or.inl ⟨by rw [if_neg h0, if_neg h1, if_neg h2, if_pos h3], h3⟩)))
  by_cases h4 : 30 ≤ c
  · exact Or.inr (Or.inr (Or.inr (Or.inr (Or.inl ⟨by rw [if_neg h0, if_neg h1, if_neg h2, if_neg h3, if_pos h4], ⟨h4, by omega⟩⟩))))
  by_cases h5 : 20 ≤ c
  · exact Or.inr (Or.inr (Or.inr (Or.inr (Or.inr (Or.inl ⟨by rw [if_neg h0, if_neg h1, if_neg h2, if_neg h3, if_neg h4, if_pos h5], ⟨h5, by omega⟩⟩)))))
  by_cases h6 : c = 11
  · exact Or.inr (Or.inr (Or.inr (Or.inr (Or.inr (Or.inr (Or.inl ⟨by rw [if_neg h0, if_neg h1, if_neg h2, if_neg h3, if_neg h4, if_neg h5, if_pos h6], h6⟩))))))
  by_cases h7 : c = 12
  · exact Or.inr (Or.inr (Or.inr (Or.inr (Or.inr (Or.inr (Or.inr (Or.inl ⟨by rw [if_neg h0, if_neg h1, if_neg h2, if_neg h3, if_neg h4, if_neg h5, if_neg h6, if_pos h7], h7⟩)))))))
  by_cases h8 : c = 13
  · exact Or.inr (Or.inr (Or.inr (Or.inr (Or.inr (Or.inr (Or.inr (Or.inr (Or.inl ⟨by rw [if_neg h0, if_neg h1, if_neg h2, if_neg h3, if_neg h4, if_neg h5, if_neg h6, if_neg h7, if_pos h8], h8⟩))))))))
  by_cases h9 : c = 14
  · exact Or.inr (Or.inr (Or.inr (Or.inr (Or.inr (Or.inr (Or.inr (Or.inr (Or.inr (Or.inl ⟨by rw [if_neg h0, if_neg h1, if_neg h2, if_neg h3, if_neg h4, if_neg h5, if_neg h6, if_neg h7, if_neg h8, if_pos h9], h9⟩)))))))))
  by_cases h10 : c = 15
  · exact Or.inr (Or.inr (Or.inr (Or.inr (Or.inr (Or.inr (Or.inr (Or.inr (Or.inr (Or.inr (Or.inl ⟨by rw [if_neg h0, if_neg h1, if_neg h2, if_neg h3, if_neg h4, if_neg h5, if_neg h6, if_neg h7, if_neg h8, if_neg h9, if_pos h10], h10⟩))))))))))
  by_cases h11 : c = 16
  · exact Or.inr (Or.inr (Or.inr (Or.inr (Or.inr (Or.inr (Or.inr (Or.inr (Or.inr (Or.inr (Or.inr (Or.inl ⟨by rw [if_neg h0, if_neg h1, if_neg h2, if_neg h3, if_neg h4, if_neg h5, if_neg h6, if_neg h7, if_neg h8, if_neg h9, if_neg h10, if_pos h11], h11⟩)))))))))))
  by_cases h12 : c = 17
  · exact Or.inr (Or.inr (Or.inr (Or.inr (Or.inr (Or.inr (Or.inr (Or.inr (Or.inr (Or.inr (Or.inr (Or.inr (Or.inl ⟨by rw [if_neg h0, if_neg h1, if_neg h2, if_neg h3, if_neg h4, if_neg h5, if_neg h6, if_neg h7, if_neg h8, if_neg h9, if_neg h10, if_neg h11, if_pos h12], h12⟩))))))))))))
  by_cases h13 : c = 18
  · exact Or.inr (Or.inr (Or.inr (Or.inr (Or.inr (Or.inr (Or.inr (Or.inr (Or.inr (Or.inr (Or.inr (Or.inr (Or.inr (Or.inl ⟨by rw [if_neg h0, if_neg h1, if_neg h2, if_neg h3, if_neg h4, if_neg h5, if_neg h6, if_neg h7, if_neg h8, if_neg h9, if_neg h10, if_neg h11, if_neg h12, if_pos h13], h13⟩)))))))))))))
  by_cases h14 : c = 0
  · exact Or.inr (Or.inr (Or.inr (Or.inr (Or.inr (Or.inr (Or.inr (Or.inr (Or.inr (Or.inr (Or.inr (Or.inr (Or.inr (Or.inr (Or.inl ⟨by rw [if_neg h0, if_neg h1, if_neg h2, if_neg h3, if_neg h4, if_neg h5, if_neg h6, if_neg h7, if_neg h8, if_neg h9, if_neg h10, if_neg h11, if_neg h12, if_neg h13, if_pos h14], h14⟩))))))))))))))
  exact Or.inr (Or.inr (Or.inr (Or.inr (Or.inr (Or.inr (Or.inr (Or.inr (Or.inr (Or.inr (Or.inr (Or.inr (Or.inr (Or.inr (Or.inr (by rw [if_neg h0, if_neg h1, if_neg h2, if_neg h3, if_neg h4, if_neg h5, if_neg h6, if_neg h7, if_neg h8, if_neg h9, if_neg h10, if_neg h11, if_neg h12, if_neg h13, if_neg h14])))))))))))))))
theorem t_mi_1 {c : Nat} (h : t_mt c = 1) : 100000 ≤ c := by
  rcases t_mt_key c with ⟨k, q⟩ | ⟨k, q⟩ | ⟨k, q⟩ | ⟨k, q⟩ | ⟨k, q⟩ | ⟨k, q⟩ | ⟨k, q⟩ | ⟨k, q⟩ | ⟨k, q⟩ | ⟨k, q⟩ | ⟨k, q⟩ | ⟨k, q⟩ | ⟨k, q⟩ | ⟨k, q⟩ | ⟨k, q⟩ | k
  all_goals first | exact q | exact absurd (k.symm.trans h) (by decide)
theorem t_mi_40 {c : Nat} (h : t_mt c = 40) : c = 40 := by
  rcases t_mt_key c with ⟨k, q⟩ | ⟨k, q⟩ | ⟨k, q⟩ | ⟨k, q⟩ | ⟨k, q⟩ | ⟨k, q⟩ | ⟨k, q⟩ | ⟨k, q⟩ | ⟨k, q⟩ | ⟨k, q⟩ | ⟨k, q⟩ | ⟨k, q⟩ | ⟨k, q⟩ | ⟨k, q⟩ | ⟨k, q⟩ | k
  all_goals first | exact q | exact absurd (k.symm.trans h) (by decide)
theorem t_mi_41 {c : Nat} (h : t_mt c = 41) : c = 41 := by
  rcases t_mt_key c with ⟨k, q⟩ | ⟨k, q⟩ | ⟨k, q⟩ | ⟨k, q⟩ | ⟨k, q⟩ | ⟨k, q⟩ | ⟨k, q⟩ | ⟨k, q⟩ | ⟨k, q⟩ | ⟨k, q⟩ | ⟨k, q⟩ | ⟨k, q⟩ | ⟨k, q⟩ | ⟨k, q⟩ | ⟨k, q⟩ | k
  all_goals first | exact q | exact absurd (k.symm.trans h) (by decide)
theorem t_mi_59 {c : Nat} (h : t_mt c = 59) : c = 42 := by
  rcases t_mt_key c with ⟨k, q⟩ | ⟨k, q⟩ | ⟨k, q⟩ | ⟨k, q⟩ | ⟨k, q⟩ | ⟨k, q⟩ | ⟨k, q⟩ | ⟨k, q⟩ | ⟨k, q⟩ | ⟨k, q⟩ | ⟨k, q⟩ | ⟨k, q⟩ | ⟨k, q⟩ | ⟨k, q⟩ | ⟨k, q⟩ | k
  all_goals first | exact q | exact absurd (k.symm.trans h) (by decide)
theorem t_mi_2 {c : Nat} (h : t_mt c = 2) : 30 ≤ c ∧ c < 100000 := by
  rcases t_mt_key c with ⟨k, q⟩ | ⟨k, q⟩ | ⟨k, q⟩ | ⟨k, q⟩ | ⟨k, q⟩ | ⟨k, q⟩ | ⟨k, q⟩ | ⟨k, q⟩ | ⟨k, q⟩ | ⟨k, q⟩ | ⟨k, q⟩ | ⟨k, q⟩ | ⟨k, q⟩ | ⟨k, q⟩ | ⟨k, q⟩ | k
  all_goals first | exact q | exact absurd (k.symm.trans h) (by decide)
theorem t_mi_3 {c : Nat} (h : t_mt c = 3) : 20 ≤ c ∧ c < 30 := by
  rcases t_mt_key c with ⟨k, q⟩ | ⟨k, q⟩ | ⟨k, q⟩ | ⟨k, q⟩ | ⟨k, q⟩ | ⟨k, q⟩ | ⟨k, q⟩ | ⟨k, q⟩ | ⟨k, q⟩ | ⟨k, q⟩ | ⟨k, q⟩ | ⟨k, q⟩ | ⟨k, q⟩ | ⟨k, q⟩ | ⟨k, q⟩ | k
  all_goals first | exact q | exact absurd (k.symm.trans h) (by decide)
theorem t_mi_4 {c : Nat} (h : t_mt c = 4) : c = 11 := by
  rcases t_mt_key c with ⟨k, q⟩ | ⟨k, q⟩ | ⟨k, q⟩ | ⟨k, q⟩ | ⟨k, q⟩ | ⟨k, q⟩ | ⟨k, q⟩ | ⟨k, q⟩ | ⟨k, q⟩ | ⟨k, q⟩ | ⟨k, q⟩ | ⟨k, q⟩ | ⟨k, q⟩ | ⟨k, q⟩ | ⟨k, q⟩ | k
  all_goals first | exact q | exact absurd (k.symm.trans h) (by decide)
theorem t_mi_5 {c : Nat} (h : t_mt c = 5) : c = 12 := by
  rcases t_mt_key c with ⟨k, q⟩ | ⟨k, q⟩ | ⟨k, q⟩ | ⟨k, q⟩ | ⟨k, q⟩ | ⟨k, q⟩ | ⟨k, q⟩ | ⟨k, q⟩ | ⟨k, q⟩ | ⟨k, q⟩ | ⟨k, q⟩ | ⟨k, q⟩ | ⟨k, q⟩ | ⟨k, q⟩ | ⟨k, q⟩ | k
  all_goals first | exact q | exact absurd (k.symm.trans h) (by decide)
theorem t_mi_6 {c : Nat} (h : t_mt c = 6) : c = 13 := by
  rcases t_mt_key c with ⟨k, q⟩ | ⟨k, q⟩ | ⟨k, q⟩ | ⟨k, q⟩ | ⟨k, q⟩ | ⟨k, q⟩ | ⟨k, q⟩ | ⟨k, q⟩ | ⟨k, q⟩ | ⟨k, q⟩ | ⟨k, q⟩ | ⟨k, q⟩ | ⟨k, q⟩ | ⟨k, q⟩ | ⟨k, q⟩ | k
  all_goals first | exact q | exact absurd (k.symm.trans h) (by decide)
theorem t_mi_60 {c : Nat} (h : t_mt c = 60) : c = 14 := by
  rcases t_mt_key c with ⟨k, q⟩ | ⟨k, q⟩ | ⟨k, q⟩ | ⟨k, q⟩ | ⟨k, q⟩ | ⟨k, q⟩ | ⟨k, q⟩ | ⟨k, q⟩ | ⟨k, q⟩ | ⟨k, q⟩ | ⟨k, q⟩ | ⟨k, q⟩ | ⟨k, q⟩ | ⟨k, q⟩ | ⟨k, q⟩ | k
  all_goals first | exact q | exact absurd (k.symm.trans h) (by decide)
theorem t_mi_61 {c : Nat} (h : t_mt c = 61) : c = 15 := by
  rcases t_mt_key c with ⟨k, q⟩ | ⟨k, q⟩ | ⟨k, q⟩ | ⟨k, q⟩ | ⟨k, q⟩ | ⟨k, q⟩ | ⟨k, q⟩ | ⟨k, q⟩ | ⟨k, q⟩ | ⟨k, q⟩ | ⟨k, q⟩ | ⟨k, q⟩ | ⟨k, q⟩ | ⟨k, q⟩ | ⟨k, q⟩ | k
  all_goals first | exact q | exact absurd (k.symm.trans h) (by decide)
theorem t_mi_43 {c : Nat} (h : t_mt c = 43) : c = 16 := by
  rcases t_mt_key c with ⟨k, q⟩ | ⟨k, q⟩ | ⟨k, q⟩ | ⟨k, q⟩ | ⟨k, q⟩ | ⟨k, q⟩ | ⟨k, q⟩ | ⟨k, q⟩ | ⟨k, q⟩ | ⟨k, q⟩ | ⟨k, q⟩ | ⟨k, q⟩ | ⟨k, q⟩ | ⟨k, q⟩ | ⟨k, q⟩ | k
  all_goals first | exact q | exact absurd (k.symm.trans h) (by decide)
theorem t_mi_45 {c : Nat} (h : t_mt c = 45) : c = 17 := by
  rcases t_mt_key c with ⟨k, q⟩ | ⟨k, q⟩ | ⟨k, q⟩ | ⟨k, q⟩ | ⟨k, q⟩ | ⟨k, q⟩ | ⟨k, q⟩ | ⟨k, q⟩ | ⟨k, q⟩ | ⟨k, q⟩ | ⟨k, q⟩ | ⟨k, q⟩ | ⟨k, q⟩ | ⟨k, q⟩ | ⟨k, q⟩ | k
  all_goals first | exact q | exact absurd (k.symm.trans h) (by decide)
theorem t_mi_42 {c : Nat} (h : t_mt c = 42) : c = 18 := by
  rcases t_mt_key c with ⟨k, q⟩ | ⟨k, q⟩ | ⟨k, q⟩ | ⟨k, q⟩ | ⟨k, q⟩ | ⟨k, q⟩ | ⟨k, q⟩ | ⟨k, q⟩ | ⟨k, q⟩ | ⟨k, q⟩ | ⟨k, q⟩ | ⟨k, q⟩ | ⟨k, q⟩ | ⟨k, q⟩ | ⟨k, q⟩ | k
  all_goals first | exact q | exact absurd (k.symm.trans h) (by decide)
theorem t_mi_0 {c : Nat} (h : t_mt c = 0) : c = 0 := by
  rcases t_mt_key c with ⟨k, q⟩ | ⟨k, q⟩ | ⟨k, q⟩ | ⟨k, q⟩ | ⟨k, q⟩ | ⟨k, q⟩ | ⟨k, q⟩ | ⟨k, q⟩ | ⟨k, q⟩ | ⟨k, q⟩ | ⟨k, q⟩ | ⟨k, q⟩ | ⟨k, q⟩ | ⟨k, q⟩ | ⟨k, q⟩ | k
  all_goals first | exact q | exact absurd (k.symm.trans h) (by decide)
theorem g_sub1 {x a : Int32} {m : Nat} (h : x = a - 1) (ha : a = nI (m + 1)) : x = nI m := by rw [h, ha, nI_pred]
theorem t_rk9 (c : Nat) : t_rk c < 9 := by
  unfold t_rk
  repeat' split
  all_goals omega
theorem t_u_s {r c : Nat} {h out : List Nat} (q : r ≤ t_rk c) : t_u r (c :: h) out = t_u r h (out ++ [c]) := if_pos q
theorem t_u_n {r c : Nat} {h out : List Nat} (q : ¬ r ≤ t_rk c) : t_u r (c :: h) out = (c :: h, out) := if_neg q
theorem t_op_0 (h : List Nat) : t_op (0 :: h) = t_op h + 1 := rfl
theorem t_op_13 (h : List Nat) : t_op (13 :: h) = t_op h + 1 := rfl
theorem t_op_19 (h : List Nat) : t_op (19 :: h) = t_op h + 1 := rfl
theorem t_op_n {c : Nat} (h : List Nat) (h0 : ¬ c = 0) (h1 : ¬ c = 13) (h2 : ¬ c = 19) : t_op (c :: h) = t_op h := by
  show (if c = 0 then t_op h + 1 else if c = 13 then t_op h + 1 else if c = 19 then t_op h + 1 else t_op h) = t_op h
  rw [if_neg h0, if_neg h1, if_neg h2]
theorem dX11_rank_0 : decode cX11_rank 0 = .ok (.iload_n 0, 1) := by decide +kernel
theorem dX11_rank_1 : decode cX11_rank 1 = .ok (.ifCond .ne 7, 3) := by decide +kernel
theorem dX11_rank_4 : decode cX11_rank 4 = .ok (.iconst 0, 1) := by decide +kernel
theorem dX11_rank_5 : decode cX11_rank 5 = .ok (.goto 66, 3) := by decide +kernel
theorem dX11_rank_8 : decode cX11_rank 8 = .ok (.iload_n 0, 1) := by decide +kernel
theorem dX11_rank_9 : decode cX11_rank 9 = .ok (.bipush 11, 2) := by decide +kernel
theorem dX11_rank_11 : decode cX11_rank 11 = .ok (.if_icmp .ne 7, 3) := by decide +kernel
theorem dX11_rank_14 : decode cX11_rank 14 = .ok (.iconst 1, 1) := by decide +kernel
theorem dX11_rank_15 : decode cX11_rank 15 = .ok (.goto 56, 3) := by decide +kernel
theorem dX11_rank_18 : decode cX11_rank 18 = .ok (.iload_n 0, 1) := by decide +kernel
theorem dX11_rank_19 : decode cX11_rank 19 = .ok (.bipush 12, 2) := by decide +kernel
theorem dX11_rank_21 : decode cX11_rank 21 = .ok (.if_icmp .ne 7, 3) := by decide +kernel
theorem dX11_rank_24 : decode cX11_rank 24 = .ok (.iconst 2, 1) := by decide +kernel
theorem dX11_rank_25 : decode cX11_rank 25 = .ok (.goto 46, 3) := by decide +kernel
theorem dX11_rank_28 : decode cX11_rank 28 = .ok (.iload_n 0, 1) := by decide +kernel
theorem dX11_rank_29 : decode cX11_rank 29 = .ok (.bipush 13, 2) := by decide +kernel
theorem dX11_rank_31 : decode cX11_rank 31 = .ok (.if_icmp .ne 7, 3) := by decide +kernel
theorem dX11_rank_34 : decode cX11_rank 34 = .ok (.iconst 3, 1) := by decide +kernel
theorem dX11_rank_35 : decode cX11_rank 35 = .ok (.goto 36, 3) := by decide +kernel
theorem dX11_rank_38 : decode cX11_rank 38 = .ok (.iload_n 0, 1) := by decide +kernel
theorem dX11_rank_39 : decode cX11_rank 39 = .ok (.bipush 15, 2) := by decide +kernel
theorem dX11_rank_41 : decode cX11_rank 41 = .ok (.if_icmp .gt 7, 3) := by decide +kernel
theorem dX11_rank_44 : decode cX11_rank 44 = .ok (.iconst 4, 1) := by decide +kernel
theorem dX11_rank_45 : decode cX11_rank 45 = .ok (.goto 26, 3) := by decide +kernel
theorem dX11_rank_48 : decode cX11_rank 48 = .ok (.iload_n 0, 1) := by decide +kernel
theorem dX11_rank_49 : decode cX11_rank 49 = .ok (.bipush 17, 2) := by decide +kernel
theorem dX11_rank_51 : decode cX11_rank 51 = .ok (.if_icmp .gt 7, 3) := by decide +kernel
theorem dX11_rank_54 : decode cX11_rank 54 = .ok (.iconst 5, 1) := by decide +kernel
theorem dX11_rank_55 : decode cX11_rank 55 = .ok (.goto 16, 3) := by decide +kernel
theorem dX11_rank_58 : decode cX11_rank 58 = .ok (.iload_n 0, 1) := by decide +kernel
theorem dX11_rank_59 : decode cX11_rank 59 = .ok (.bipush 18, 2) := by decide +kernel
theorem dX11_rank_61 : decode cX11_rank 61 = .ok (.if_icmp .ne 8, 3) := by decide +kernel
theorem dX11_rank_64 : decode cX11_rank 64 = .ok (.bipush 6, 2) := by decide +kernel
theorem dX11_rank_66 : decode cX11_rank 66 = .ok (.goto 5, 3) := by decide +kernel
theorem dX11_rank_69 : decode cX11_rank 69 = .ok (.bipush 7, 2) := by decide +kernel
theorem dX11_rank_71 : decode cX11_rank 71 = .ok (.ireturn, 1) := by decide +kernel
set_option maxHeartbeats 4000000 in
set_option maxRecDepth 100000 in
theorem c_X11_rank (d : Nat) (c : Nat) (x : Int32) (hx : x = nI c) (hc : c < 20) (s : gS) : gMt SM yX11_rank cX11_rank 1 (some .int) (d + 1) (fun ad => [.int x]) s (gQi SM (fun r s' => s' = s ∧ r = nI (t_rk c))) := by
  refine gMt_of SM_ok (by decide +kernel) (fun ad => [some (.int x)]) (fun _ => rfl) (fun _ => rfl) (fun _ => Nat.le_of_ble_eq_true rfl) (fun E C0 => ?_)
  have C : gCx SM E RX11 cX11_rank 1 (some .int) (d + 1) := C0
  refine G_iload_n (i := 0) C 1 dX11_rank_0 rfl rfl rfl ?_
  refine G_if_ne C 8 4 dX11_rank_1 rfl rfl (fun c1 => ?_) (fun c1 => ?_)
  ·
    have n1 : ¬ c = 0 := fun h => c1 ((g_eqN (a := c) (b := 0) (hx := hx) (hy := rfl) (by omega) (by omega)).mpr h)
    refine G_iload_n (i := 0) C 9 dX11_rank_8 rfl rfl rfl ?_
    refine G_bipush (v := 11) C 11 dX11_rank_9 rfl rfl ?_
    refine G_icmp_ne C 18 14 dX11_rank_11 rfl rfl (fun c11 => ?_) (fun c11 => ?_)
    ·
      have n11 : ¬ c = 11 := fun h => c11 ((g_eqN (a := c) (b := 11) (hx := hx) (hy := rfl) (by omega) (by omega)).mpr h)
      refine G_iload_n (i := 0) C 19 dX11_rank_18 rfl rfl rfl ?_
      refine G_bipush (v := 12) C 21 dX11_rank_19 rfl rfl ?_
      refine G_icmp_ne C 28 24 dX11_rank_21 rfl rfl (fun c21 => ?_) (fun c21 => ?_)
      ·
        have n21 : ¬ c = 12 := fun h => c21 ((g_eqN (a := c) (b := 12) (hx := hx) (hy := rfl) (by omega) (by omega)).mpr h)
        refine G_iload_n (i := 0) C 29 dX11_rank_28 rfl rfl rfl ?_
        refine G_bipush (v := 13) C 31 dX11_rank_29 rfl rfl ?_
        refine G_icmp_ne C 38 34 dX11_rank_31 rfl rfl (fun c31 => ?_) (fun c31 => ?_)
        ·
          have n31 : ¬ c = 13 := fun h => c31 ((g_eqN (a := c) (b := 13) (hx := hx) (hy := rfl) (by omega) (by omega)).mpr h)
          refine G_iload_n (i := 0) C 39 dX11_rank_38 rfl rfl rfl ?_
          refine G_bipush (v := 15) C 41 dX11_rank_39 rfl rfl ?_
          refine G_icmp_gt C 48 44 dX11_rank_41 rfl rfl (fun c41 => ?_) (fun c41 => ?_)
          ·
            have n41 : 15 < c := (g_ltN (a := 15) (b := c) (hx := rfl) (hy := hx) (by omega) (by omega)).mp c41
            refine G_iload_n (i := 0) C 49 dX11_rank_48 rfl rfl rfl ?_
            refine G_bipush (v := 17) C 51 dX11_rank_49 rfl rfl ?_
            refine G_icmp_gt C 58 54 dX11_rank_51 rfl rfl (fun c51 => ?_) (fun c51 => ?_)
            ·
              have n51 : 17 < c := (g_ltN (a := 17) (b := c) (hx := rfl) (hy := hx) (by omega) (by omega)).mp c51
              refine G_iload_n (i := 0) C 59 dX11_rank_58 rfl rfl rfl ?_
              refine G_bipush (v := 18) C 61 dX11_rank_59 rfl rfl ?_
              refine G_icmp_ne C 69 64 dX11_rank_61 rfl rfl (fun c61 => ?_) (fun c61 => ?_)
              ·
                have n61 : ¬ c = 18 := fun h => c61 ((g_eqN (a := c) (b := 18) (hx := hx) (hy := rfl) (by omega) (by omega)).mpr h)
                refine G_bipush (v := 7) C 71 dX11_rank_69 rfl rfl ?_
                exact G_iret C dX11_rank_71 (⟨rfl, by unfold t_rk; rw [if_neg n1, if_neg n11, if_neg n21, if_neg n31, if_neg (by omega), if_neg (by omega), if_neg n61]; rfl⟩)
              ·
                have n61 : c = 18 := (g_eqN (a := c) (b := 18) (hx := hx) (hy := rfl) (by omega) (by omega)).mp c61
                refine G_bipush (v := 6) C 66 dX11_rank_64 rfl rfl ?_
                refine G_goto C 71 dX11_rank_66 rfl ?_
                exact G_iret C dX11_rank_71 (⟨rfl, by unfold t_rk; rw [if_neg n1, if_neg n11, if_neg n21, if_neg n31, if_neg (by omega), if_neg (by omega), if_pos n61]; rfl⟩)
            ·
              have n51 : ¬ 17 < c := fun h => c51 ((g_ltN (a := 17) (b := c) (hx := rfl) (hy := hx) (by omega) (by omega)).mpr h)
              refine G_iconst (v := 5) C 55 dX11_rank_54 rfl rfl ?_
              refine G_goto C 71 dX11_rank_55 rfl ?_
              exact G_iret C dX11_rank_71 (⟨rfl, by unfold t_rk; rw [if_neg n1, if_neg n11, if_neg n21, if_neg n31, if_neg (by omega), if_pos (by omega)]; rfl⟩)
          ·
            have n41 : ¬ 15 < c := fun h => c41 ((g_ltN (a := 15) (b := c) (hx := rfl) (hy := hx) (by omega) (by omega)).mpr h)
            refine G_iconst (v := 4) C 45 dX11_rank_44 rfl rfl ?_
            refine G_goto C 71 dX11_rank_45 rfl ?_
            exact G_iret C dX11_rank_71 (⟨rfl, by unfold t_rk; rw [if_neg n1, if_neg n11, if_neg n21, if_neg n31, if_pos (by omega)]; rfl⟩)
        ·
          have n31 : c = 13 := (g_eqN (a := c) (b := 13) (hx := hx) (hy := rfl) (by omega) (by omega)).mp c31
          refine G_iconst (v := 3) C 35 dX11_rank_34 rfl rfl ?_
          refine G_goto C 71 dX11_rank_35 rfl ?_
          exact G_iret C dX11_rank_71 (⟨rfl, by unfold t_rk; rw [if_neg n1, if_neg n11, if_neg n21, if_pos n31]; rfl⟩)
      ·
        have n21 : c = 12 := (g_eqN (a := c) (b := 12) (hx := hx) (hy := rfl) (by omega) (by omega)).mp c21
        refine G_iconst (v := 2) C 25 dX11_rank_24 rfl rfl ?_
        refine G_goto C 71 dX11_rank_25 rfl ?_
        exact G_iret C dX11_rank_71 (⟨rfl, by unfold t_rk; rw [if_neg n1, if_neg n11, if_pos n21]; rfl⟩)
    ·
      have n11 : c = 11 := (g_eqN (a := c) (b := 11) (hx := hx) (hy := rfl) (by omega) (by omega)).mp c11
      refine G_iconst (v := 1) C 15 dX11_rank_14 rfl rfl ?_
      refine G_goto C 71 dX11_rank_15 rfl ?_
      exact G_iret C dX11_rank_71 (⟨rfl, by unfold t_rk; rw [if_neg n1, if_pos n11]; rfl⟩)
  ·
    have n1 : c = 0 := (g_eqN (a := c) (b := 0) (hx := hx) (hy := rfl) (by omega) (by omega)).mp c1
    refine G_iconst (v := 0) C 5 dX11_rank_4 rfl rfl ?_
    refine G_goto C 71 dX11_rank_5 rfl ?_
    exact G_iret C dX11_rank_71 (⟨rfl, by unfold t_rk; rw [if_pos n1]; rfl⟩)
theorem dX11_puts_0 : decode cX11_puts 0 = .ok (.aload_n 0, 1) := by decide +kernel
theorem dX11_puts_1 : decode cX11_puts 1 = .ok (.getfield 25, 3) := by decide +kernel
theorem dX11_puts_4 : decode cX11_puts 4 = .ok (.sipush 200, 3) := by decide +kernel
theorem dX11_puts_7 : decode cX11_puts 7 = .ok (.aload_n 0, 1) := by decide +kernel
theorem dX11_puts_8 : decode cX11_puts 8 = .ok (.getfield 86, 3) := by decide +kernel
theorem dX11_puts_11 : decode cX11_puts 11 = .ok (.imul, 1) := by decide +kernel
theorem dX11_puts_12 : decode cX11_puts 12 = .ok (.aload_n 0, 1) := by decide +kernel
theorem dX11_puts_13 : decode cX11_puts 13 = .ok (.getfield 115, 3) := by decide +kernel
theorem dX11_puts_16 : decode cX11_puts 16 = .ok (.iadd, 1) := by decide +kernel
theorem dX11_puts_17 : decode cX11_puts 17 = .ok (.iload_n 1, 1) := by decide +kernel
theorem dX11_puts_18 : decode cX11_puts 18 = .ok (.iastore, 1) := by decide +kernel
theorem dX11_puts_19 : decode cX11_puts 19 = .ok (.aload_n 0, 1) := by decide +kernel
theorem dX11_puts_20 : decode cX11_puts 20 = .ok (.dup, 1) := by decide +kernel
theorem dX11_puts_21 : decode cX11_puts 21 = .ok (.getfield 115, 3) := by decide +kernel
theorem dX11_puts_24 : decode cX11_puts 24 = .ok (.iconst 1, 1) := by decide +kernel
theorem dX11_puts_25 : decode cX11_puts 25 = .ok (.iadd, 1) := by decide +kernel
theorem dX11_puts_26 : decode cX11_puts 26 = .ok (.putfield 115, 3) := by decide +kernel
theorem dX11_puts_29 : decode cX11_puts 29 = .ok (.return_, 1) := by decide +kernel
set_option maxHeartbeats 4000000 in
set_option maxRecDepth 100000 in
theorem c_X11_puts (d : Nat) (s : gS) (t z : Nat) (ht : s 0 9 = nI t) (hz : s 0 26 = nI z) (ht6 : t < 6) (hz2 : z < 200) (v : Int32) : gMt SM yX11_puts cX11_puts 2 none (d + 1) (fun ad => [.ref (ad 0), .int v]) s (gQv SM (fun s' => s' = g_up (g_up s 6 (200 * t + z) v) 0 26 (nI (z + 1)))) := by
  refine gMt_of SM_ok (by decide +kernel) (fun ad => [some (.ref (ad 0)), some (.int v)]) (fun _ => rfl) (fun _ => rfl) (fun _ => Nat.le_of_ble_eq_true rfl) (fun E C0 => ?_)
  have C : gCx SM E RX11 cX11_puts 2 none (d + 1) := C0
  refine G_aload_n (i := 0) C 1 dX11_puts_0 rfl rfl rfl ?_
  refine X11_25g C 4 dX11_puts_1 rfl ?_
  refine G_sipush (v := 200) C 7 dX11_puts_4 rfl rfl ?_
  refine G_aload_n (i := 0) C 8 dX11_puts_7 rfl rfl rfl ?_
  refine X11_86g C 11 dX11_puts_8 rfl (fun x8 ex8 => ?_)
  have Sx8 : x8 = nI t := ex8.trans (ht)
  refine G_imul C 12 dX11_puts_11 rfl (fun x11 ex11 => ?_)
  have Nx11 : x11 = nI (200 * t) := g_mulN ex11 rfl Sx8
  refine G_aload_n (i := 0) C 13 dX11_puts_12 rfl rfl rfl ?_
  refine X11_115g C 16 dX11_puts_13 rfl (fun x13 ex13 => ?_)
  have Sx13 : x13 = nI z := ex13.trans (hz)
  refine G_iadd C 17 dX11_puts_16 rfl (fun x16 ex16 => ?_)
  have Nx16 : x16 = nI ((200 * t) + z) := g_addN ex16 Nx11 Sx13
  refine G_iload_n (i := 1) C 18 dX11_puts_17 rfl rfl rfl ?_
  refine G_iast (n := 1200) C 19 (by decide) (fun σ => eMk (by decide) _ _ σ) (((200 * t) + z)) Nx16 (by omega) (by decide) (Nat.le_refl _) dX11_puts_18 rfl (fun s18 es18 => ?_)
  refine G_aload_n (i := 0) C 20 dX11_puts_19 rfl rfl rfl ?_
  refine G_dup C 21 dX11_puts_20 rfl rfl ?_
  refine X11_115g C 24 dX11_puts_21 rfl (fun x21 ex21 => ?_)
  have Sx21 : x21 = nI z := ex21.trans (by rw [es18, g_up_n (by decide)]; exact hz)
  refine G_iconst (v := 1) C 25 dX11_puts_24 rfl rfl ?_
  refine G_iadd C 26 dX11_puts_25 rfl (fun x25 ex25 => ?_)
  have Nx25 : x25 = nI (z + 1) := g_addN ex25 Sx21 rfl
  refine X11_115p C 29 dX11_puts_26 rfl (fun s26 es26 => ?_)
  exact G_vret C dX11_puts_29 (by rw [es26, Nx25, es18])
theorem dX11_holds_0 : decode cX11_holds 0 = .ok (.aload_n 0, 1) := by decide +kernel
theorem dX11_holds_1 : decode cX11_holds 1 = .ok (.getfield 52, 3) := by decide +kernel
theorem dX11_holds_4 : decode cX11_holds 4 = .ok (.aload_n 0, 1) := by decide +kernel
theorem dX11_holds_5 : decode cX11_holds 5 = .ok (.getfield 118, 3) := by decide +kernel
theorem dX11_holds_8 : decode cX11_holds 8 = .ok (.iload_n 1, 1) := by decide +kernel
theorem dX11_holds_9 : decode cX11_holds 9 = .ok (.iastore, 1) := by decide +kernel
theorem dX11_holds_10 : decode cX11_holds 10 = .ok (.aload_n 0, 1) := by decide +kernel
theorem dX11_holds_11 : decode cX11_holds 11 = .ok (.dup, 1) := by decide +kernel
theorem dX11_holds_12 : decode cX11_holds 12 = .ok (.getfield 118, 3) := by decide +kernel
theorem dX11_holds_15 : decode cX11_holds 15 = .ok (.iconst 1, 1) := by decide +kernel
theorem dX11_holds_16 : decode cX11_holds 16 = .ok (.iadd, 1) := by decide +kernel
theorem dX11_holds_17 : decode cX11_holds 17 = .ok (.putfield 118, 3) := by decide +kernel
theorem dX11_holds_20 : decode cX11_holds 20 = .ok (.return_, 1) := by decide +kernel
set_option maxHeartbeats 4000000 in
set_option maxRecDepth 100000 in
theorem c_X11_holds (d : Nat) (s : gS) (n : Nat) (hn : s 0 24 = nI n) (hn2 : n < 200) (v : Int32) : gMt SM yX11_holds cX11_holds 2 none (d + 1) (fun ad => [.ref (ad 0), .int v]) s (gQv SM (fun s' => s' = g_up (g_up s 15 n v) 0 24 (nI (n + 1)))) := by
  refine gMt_of SM_ok (by decide +kernel) (fun ad => [some (.ref (ad 0)), some (.int v)]) (fun _ => rfl) (fun _ => rfl) (fun _ => Nat.le_of_ble_eq_true rfl) (fun E C0 => ?_)
  have C : gCx SM E RX11 cX11_holds 2 none (d + 1) := C0
  refine G_aload_n (i := 0) C 1 dX11_holds_0 rfl rfl rfl ?_
  refine X11_52g C 4 dX11_holds_1 rfl ?_
  refine G_aload_n (i := 0) C 5 dX11_holds_4 rfl rfl rfl ?_
  refine X11_118g C 8 dX11_holds_5 rfl (fun x5 ex5 => ?_)
  have Sx5 : x5 = nI n := ex5.trans (hn)
  refine G_iload_n (i := 1) C 9 dX11_holds_8 rfl rfl rfl ?_
  refine G_iast (n := 200) C 10 (by decide) (fun σ => eMk (by decide) _ _ σ) (n) Sx5 (by omega) (by decide) (Nat.le_refl _) dX11_holds_9 rfl (fun s9 es9 => ?_)
  refine G_aload_n (i := 0) C 11 dX11_holds_10 rfl rfl rfl ?_
  refine G_dup C 12 dX11_holds_11 rfl rfl ?_
  refine X11_118g C 15 dX11_holds_12 rfl (fun x12 ex12 => ?_)
  have Sx12 : x12 = nI n := ex12.trans (by rw [es9, g_up_n (by decide)]; exact hn)
  refine G_iconst (v := 1) C 16 dX11_holds_15 rfl rfl ?_
  refine G_iadd C 17 dX11_holds_16 rfl (fun x16 ex16 => ?_)
  have Nx16 : x16 = nI (n + 1) := g_addN ex16 Sx12 rfl
  refine X11_118p C 20 dX11_holds_17 rfl (fun s17 es17 => ?_)
  exact G_vret C dX11_holds_20 (by rw [es17, Nx16, es9])
theorem t_S_put {a b : gS} {t z0 c : Nat} {h cs : List Nat} (h9 : a 0 9 = nI t) (h24 : a 0 24 = nI h.length) (h25 : a 0 25 = nI (t_op h)) (hh : t_hs (a 15) h) (hc : ∀ i c, cs[i]? = some c → a 6 (200 * t + z0 + i) = nI c) (e : b = g_up (g_up a 6 (200 * t + (z0 + cs.length)) (nI c)) 0 26 (nI (z0 + cs.length + 1))) : t_S b t z0 h (cs ++ [c]) := by
  have z : ∀ j, j ≠ 26 → b 0 j = a 0 j := fun j hj => by rw [e, g_up_sj, if_neg hj, g_up_n (by decide)]
  have z15 : b 15 = a 15 := by rw [e, g_up_n (by decide), g_up_n (by decide)]
  refine ⟨(z 9 (by decide)).trans h9, (z 24 (by decide)).trans h24, (z 25 (by decide)).trans h25, ?_, by rw [z15]; exact hh, fun i q hq => ?_⟩
  · rw [e, g_up_sj, if_pos rfl, List.length_append]
    rfl
  · rw [e, g_up_n (by decide), g_up_sj]
    by_cases hi : i < cs.length
    · rw [if_neg (by omega)]
      rw [List.getElem?_append_left hi] at hq
      exact hc i q hq
    · rw [List.getElem?_append_right (by omega)] at hq
      have hi2 : i - cs.length = 0 := by
        rcases Nat.eq_zero_or_pos (i - cs.length) with y | y
        · exact y
        · rw [List.getElem?_eq_none (by simp only [List.length_cons, List.length_nil]; omega)] at hq
          exact absurd hq (by simp)
      rw [hi2] at hq
      simp at hq
      rw [if_pos (by omega), hq]
theorem t_F.up0 {t z0 j : Nat} {a b : gS} {v : Int32} (e : b = g_up a 0 j v) (hj : j = 24 ∨ j = 25 ∨ j = 26) : t_F t z0 a b := ⟨fun k h0 _ _ => by rw [e, g_up_n h0], fun i h1 h2 h3 => by rw [e, g_up_sj, if_neg (by omega)], fun i _ => by rw [e, g_up_n (by decide)]⟩
theorem t_F.put {t z0 z : Nat} {a b : gS} {v w : Int32} (h1 : z0 ≤ z) (h2 : z < 200) (e : b = g_up (g_up a 6 (200 * t + z) v) 0 26 w) : t_F t z0 a b := ⟨fun k h0 h6 _ => by rw [e, g_up_n h0, g_up_n h6], fun i _ _ h3 => by rw [e, g_up_sj, if_neg h3, g_up_n (by decide)], fun i hi => by rw [e, g_up_n (by decide), g_up_sj, if_neg (by omega)]⟩
theorem t_F.hold {t z0 n : Nat} {a b : gS} {v w : Int32} (e : b = g_up (g_up a 15 n v) 0 24 w) : t_F t z0 a b := ⟨fun k h0 _ h15 => by rw [e, g_up_n h0, g_up_n h15], fun i h1 _ _ => by rw [e, g_up_sj, if_neg h1, g_up_n (by decide)], fun i hi => by rw [e, g_up_n (by decide), g_up_n (by decide)]⟩
theorem t_S_hold {a b : gS} {t z0 c : Nat} {h cs : List Nat} (hS : a 0 9 = nI t ∧ a 0 26 = nI (z0 + cs.length) ∧ t_hs (a 15) h ∧ ∀ i c, cs[i]? = some c → a 6 (200 * t + z0 + i) = nI c) (h25 : a 0 25 = nI (t_op (c :: h))) (e : b = g_up (g_up a 15 h.length (nI c)) 0 24 (nI (h.length + 1))) : t_S b t z0 (c :: h) cs := by
  have z : ∀ j, j ≠ 24 → b 0 j = a 0 j := fun j hj => by rw [e, g_up_sj, if_neg hj, g_up_n (by decide)]
  refine ⟨(z 9 (by decide)).trans hS.1, by rw [e, g_up_sj, if_pos rfl]; rfl, (z 25 (by decide)).trans h25, (z 26 (by decide)).trans hS.2.1, ?_, fun i q hq => by rw [e, g_up_n (by decide), g_up_n (by decide)]; exact hS.2.2.2 i q hq⟩
  have e15 : b 15 = upd (a 15) h.length (nI c) := by rw [e, g_up_n (by decide)]; exact g_set_s _ _ _
  rw [e15]
  exact ⟨if_pos rfl, t_hs_upd (Nat.le_refl _) hS.2.2.1⟩
theorem dX11_unwinds_0 : decode cX11_unwinds 0 = .ok (.aload_n 0, 1) := by decide +kernel
theorem dX11_unwinds_1 : decode cX11_unwinds 1 = .ok (.getfield 118, 3) := by decide +kernel
theorem dX11_unwinds_4 : decode cX11_unwinds 4 = .ok (.ifCond .le 75, 3) := by decide +kernel
theorem dX11_unwinds_7 : decode cX11_unwinds 7 = .ok (.aload_n 0, 1) := by decide +kernel
theorem dX11_unwinds_8 : decode cX11_unwinds 8 = .ok (.getfield 52, 3) := by decide +kernel
theorem dX11_unwinds_11 : decode cX11_unwinds 11 = .ok (.aload_n 0, 1) := by decide +kernel
theorem dX11_unwinds_12 : decode cX11_unwinds 12 = .ok (.getfield 118, 3) := by decide +kernel
theorem dX11_unwinds_15 : decode cX11_unwinds 15 = .ok (.iconst 1, 1) := by decide +kernel
theorem dX11_unwinds_16 : decode cX11_unwinds 16 = .ok (.isub, 1) := by decide +kernel
theorem dX11_unwinds_17 : decode cX11_unwinds 17 = .ok (.iaload, 1) := by decide +kernel
theorem dX11_unwinds_18 : decode cX11_unwinds 18 = .ok (.invokestatic 121, 3) := by decide +kernel
theorem dX11_unwinds_21 : decode cX11_unwinds 21 = .ok (.iload_n 1, 1) := by decide +kernel
theorem dX11_unwinds_22 : decode cX11_unwinds 22 = .ok (.if_icmp .lt 57, 3) := by decide +kernel
theorem dX11_unwinds_25 : decode cX11_unwinds 25 = .ok (.aload_n 0, 1) := by decide +kernel
theorem dX11_unwinds_26 : decode cX11_unwinds 26 = .ok (.dup, 1) := by decide +kernel
theorem dX11_unwinds_27 : decode cX11_unwinds 27 = .ok (.getfield 118, 3) := by decide +kernel
theorem dX11_unwinds_30 : decode cX11_unwinds 30 = .ok (.iconst 1, 1) := by decide +kernel
theorem dX11_unwinds_31 : decode cX11_unwinds 31 = .ok (.isub, 1) := by decide +kernel
theorem dX11_unwinds_32 : decode cX11_unwinds 32 = .ok (.putfield 118, 3) := by decide +kernel
theorem dX11_unwinds_35 : decode cX11_unwinds 35 = .ok (.aload_n 0, 1) := by decide +kernel
theorem dX11_unwinds_36 : decode cX11_unwinds 36 = .ok (.getfield 52, 3) := by decide +kernel
theorem dX11_unwinds_39 : decode cX11_unwinds 39 = .ok (.aload_n 0, 1) := by decide +kernel
theorem dX11_unwinds_40 : decode cX11_unwinds 40 = .ok (.getfield 118, 3) := by decide +kernel
theorem dX11_unwinds_43 : decode cX11_unwinds 43 = .ok (.iaload, 1) := by decide +kernel
theorem dX11_unwinds_44 : decode cX11_unwinds 44 = .ok (.istore_n 2, 1) := by decide +kernel
theorem dX11_unwinds_45 : decode cX11_unwinds 45 = .ok (.aload_n 0, 1) := by decide +kernel
theorem dX11_unwinds_46 : decode cX11_unwinds 46 = .ok (.dup, 1) := by decide +kernel
theorem dX11_unwinds_47 : decode cX11_unwinds 47 = .ok (.getfield 124, 3) := by decide +kernel
theorem dX11_unwinds_50 : decode cX11_unwinds 50 = .ok (.iload_n 2, 1) := by decide +kernel
theorem dX11_unwinds_51 : decode cX11_unwinds 51 = .ok (.bipush 13, 2) := by decide +kernel
theorem dX11_unwinds_53 : decode cX11_unwinds 53 = .ok (.if_icmp .eq 9, 3) := by decide +kernel
theorem dX11_unwinds_56 : decode cX11_unwinds 56 = .ok (.iload_n 2, 1) := by decide +kernel
theorem dX11_unwinds_57 : decode cX11_unwinds 57 = .ok (.bipush 19, 2) := by decide +kernel
theorem dX11_unwinds_59 : decode cX11_unwinds 59 = .ok (.if_icmp .ne 7, 3) := by decide +kernel
theorem dX11_unwinds_62 : decode cX11_unwinds 62 = .ok (.iconst 1, 1) := by decide +kernel
theorem dX11_unwinds_63 : decode cX11_unwinds 63 = .ok (.goto 4, 3) := by decide +kernel
theorem dX11_unwinds_66 : decode cX11_unwinds 66 = .ok (.iconst 0, 1) := by decide +kernel
theorem dX11_unwinds_67 : decode cX11_unwinds 67 = .ok (.isub, 1) := by decide +kernel
theorem dX11_unwinds_68 : decode cX11_unwinds 68 = .ok (.putfield 124, 3) := by decide +kernel
theorem dX11_unwinds_71 : decode cX11_unwinds 71 = .ok (.aload_n 0, 1) := by decide +kernel
theorem dX11_unwinds_72 : decode cX11_unwinds 72 = .ok (.iload_n 2, 1) := by decide +kernel
theorem dX11_unwinds_73 : decode cX11_unwinds 73 = .ok (.invokevirtual 127, 3) := by decide +kernel
theorem dX11_unwinds_76 : decode cX11_unwinds 76 = .ok (.goto (-76), 3) := by decide +kernel
theorem dX11_unwinds_79 : decode cX11_unwinds 79 = .ok (.return_, 1) := by decide +kernel
set_option maxHeartbeats 4000000 in
set_option maxRecDepth 100000 in
theorem c_X11_unwinds (d : Nat) (s : gS) (t z0 r : Nat) (h cs : List Nat) (hS0 : t_S s t z0 h cs) (ht6 : t < 6) (hb : z0 + (h.length + cs.length) ≤ 160) (hm0 : ∀ c, c ∈ h → c < 20) (x : Int32) (hx : x = nI r) (hr : 1 ≤ r) (hr9 : r < 9) : gMt SM yX11_unwinds cX11_unwinds 3 none (d + 2) (fun ad => [.ref (ad 0), .int x]) s (gQv SM (fun s' => t_S s' t z0 (t_u r h cs).1 (t_u r h cs).2 ∧ t_F t z0 s s')) := by
  refine gMt_of SM_ok (by decide +kernel) (fun ad => [some (.ref (ad 0)), some (.int x), none]) (fun _ => rfl) (fun _ => rfl) (fun _ => Nat.le_of_ble_eq_true rfl) (fun E C0 => ?_)
  have C : gCx SM E RX11 cX11_unwinds 3 none (d + 2) := C0
  have L0 : ∀ (f0 : Nat) (k : Nat) (h1 cs1 : List Nat) (sl0 : gS) (hk : k + h1.length = h.length) (hlen : h1.length + cs1.length = h.length + cs.length) (hm : ∀ c, c ∈ h1 → c < 20) (hu : t_u r h1 cs1 = t_u r h cs) (hS : t_S sl0 t z0 h1 cs1) (hF : t_F t z0 s sl0), h.length < k + f0 → GW SM E (gFin SM E (gQv SM (fun s' => t_S s' t z0 (t_u r h cs).1 (t_u r h cs).2 ∧ t_F t z0 s s'))) 0 [some (.ref (e_ad E 0)), some (.int x), none] [] sl0 := by
    intro f0
    induction f0 with
    | zero =>
      intro k h1 cs1 sl0 hk hlen hm hu hS hF hf0
      exact absurd hf0 (by omega)
    | succ f0 ih0 =>
      intro k h1 cs1 sl0 hk hlen hm hu hS hF hf0
      refine G_aload_n (i := 0) C 1 dX11_unwinds_0 rfl rfl rfl ?_
      refine X11_118g C 4 dX11_unwinds_1 rfl (fun x1 ex1 => ?_)
      have Sx1 : x1 = nI (h1.length) := ex1.trans (hS.2.1)
      refine G_if_le C 79 7 dX11_unwinds_4 rfl rfl (fun c4 => ?_) (fun c4 => ?_)
      ·
        have n4 : ¬ 0 < h1.length := fun h => c4 ((g_ltN (a := 0) (b := h1.length) (hx := rfl) (hy := Sx1) (by omega) (by omega)).mpr h)
        have h0 : h1 = [] := List.eq_nil_of_length_eq_zero (by omega)
        exact G_vret C dX11_unwinds_79 (⟨by rw [← hu, h0]; rw [h0] at hS; exact hS, hF⟩)
      ·
        have n4 : 0 < h1.length := (g_ltN (a := 0) (b := h1.length) (hx := rfl) (hy := Sx1) (by omega) (by omega)).mp c4
        obtain ⟨c, h2, rfl⟩ : ∃ c h2, h1 = c :: h2 := List.exists_cons_of_length_pos (by omega)
        have hc20 : c < 20 := hm c List.mem_cons_self
        have hrk9 := t_rk9 c
        simp only [List.length_cons] at hk hlen
        refine G_aload_n (i := 0) C 8 dX11_unwinds_7 rfl rfl rfl ?_
        refine X11_52g C 11 dX11_unwinds_8 rfl ?_
        refine G_aload_n (i := 0) C 12 dX11_unwinds_11 rfl rfl rfl ?_
        refine X11_118g C 15 dX11_unwinds_12 rfl (fun x12 ex12 => ?_)
        have Sx12 : x12 = nI (h2.length + 1) := ex12.trans (hS.2.1)
        refine G_iconst (v := 1) C 16 dX11_unwinds_15 rfl rfl ?_
        refine G_isub C 17 dX11_unwinds_16 rfl (fun x16 ex16 => ?_)
        have Nx16 : x16 = nI h2.length := g_sub1 ex16 Sx12
        refine G_iald (n := 200) C 18 (by decide) (eMk (by decide) _ _ _) (h2.length) Nx16 (by omega) (by decide) dX11_unwinds_17 rfl (fun x17 ex17 => ?_)
        have Sx17 : x17 = nI c := ex17.trans (hS.2.2.2.2.1.1)
        refine G_calli 21 (G_runS C Kc_X11_rank KS_X11_121 (by omega) (c_X11_rank 0 c x17 Sx17 hc20 sl0) rfl rfl (Nat.le_of_ble_eq_true rfl) rfl dX11_unwinds_18) rfl (fun x18 s18 h18 => ?_)
        obtain ⟨es18, h18⟩ := h18
        have es18 := es18.symm
        subst es18
        refine G_iload_n (i := 1) C 22 dX11_unwinds_21 rfl rfl rfl ?_
        refine G_icmp_lt C 79 25 dX11_unwinds_22 rfl rfl (fun c22 => ?_) (fun c22 => ?_)
        ·
          have n22 : (t_rk c) < r := (g_ltN (a := (t_rk c)) (b := r) (hx := h18) (hy := hx) (by omega) (by omega)).mp c22
          exact G_vret C dX11_unwinds_79 (⟨by rw [← hu, t_u_n (by omega)]; exact hS, hF⟩)
        ·
          have n22 : ¬ (t_rk c) < r := fun h => c22 ((g_ltN (a := (t_rk c)) (b := r) (hx := h18) (hy := hx) (by omega) (by omega)).mpr h)
          refine G_aload_n (i := 0) C 26 dX11_unwinds_25 rfl rfl rfl ?_
          refine G_dup C 27 dX11_unwinds_26 rfl rfl ?_
          refine X11_118g C 30 dX11_unwinds_27 rfl (fun x27 ex27 => ?_)
          have Sx27 : x27 = nI (h2.length + 1) := ex27.trans (hS.2.1)
          refine G_iconst (v := 1) C 31 dX11_unwinds_30 rfl rfl ?_
          refine G_isub C 32 dX11_unwinds_31 rfl (fun x31 ex31 => ?_)
          have Nx31 : x31 = nI h2.length := g_sub1 ex31 Sx27
          refine X11_118p C 35 dX11_unwinds_32 rfl (fun s32 es32 => ?_)
          refine G_aload_n (i := 0) C 36 dX11_unwinds_35 rfl rfl rfl ?_
          refine X11_52g C 39 dX11_unwinds_36 rfl ?_
          refine G_aload_n (i := 0) C 40 dX11_unwinds_39 rfl rfl rfl ?_
          refine X11_118g C 43 dX11_unwinds_40 rfl (fun x40 ex40 => ?_)
          have Sx40 : x40 = nI (h2.length) := ex40.trans (by rw [es32, g_up_sj, if_pos rfl]; exact Nx31)
          refine G_iald (n := 200) C 44 (by decide) (eMk (by decide) _ _ _) (h2.length) Sx40 (by omega) (by decide) dX11_unwinds_43 rfl (fun x43 ex43 => ?_)
          have Sx43 : x43 = nI c := ex43.trans (by rw [es32, g_up_n (by decide)]; exact hS.2.2.2.2.1.1)
          refine G_istore_n (i := 2) (L' := [some (.ref (e_ad E 0)), some (.int x), some (.int x43)]) C 45 dX11_unwinds_44 rfl rfl (Nat.le_of_ble_eq_true rfl) rfl rfl ?_
          refine G_aload_n (i := 0) C 46 dX11_unwinds_45 rfl rfl rfl ?_
          refine G_dup C 47 dX11_unwinds_46 rfl rfl ?_
          refine X11_124g C 50 dX11_unwinds_47 rfl (fun x47 ex47 => ?_)
          refine G_iload_n (i := 2) C 51 dX11_unwinds_50 rfl rfl rfl ?_
          refine G_bipush (v := 13) C 53 dX11_unwinds_51 rfl rfl ?_
          refine G_icmp_eq C 62 56 dX11_unwinds_53 rfl rfl (fun c53 => ?_) (fun c53 => ?_)
          ·
            have n53 : c = 13 := (g_eqN (a := c) (b := 13) (hx := Sx43) (hy := rfl) (by omega) (by omega)).mp c53
            refine G_iconst (v := 1) C 63 dX11_unwinds_62 rfl rfl ?_
            refine G_goto C 67 dX11_unwinds_63 rfl ?_
            refine G_isub C 68 dX11_unwinds_67 rfl (fun x67 ex67 => ?_)
            refine X11_124p C 71 dX11_unwinds_68 rfl (fun s68 es68 => ?_)
            have hr1 : 1 ≤ t_rk c := by omega
            have hc0 : ¬ c = 0 := fun z => by rw [z] at hr1; exact absurd hr1 (by decide)
            have hop : t_op (c :: h2) = t_op h2 + 1 := by rw [n53]; rfl
            have h25 : s68 0 25 = nI (t_op h2) := by
              rw [es68, g_up_sj, if_pos rfl, ex67, ex47, es32, g_up_sj, if_neg (by decide), hS.2.2.1, hop]
              exact nI_pred _
            refine G_aload_n (i := 0) C 72 dX11_unwinds_71 rfl rfl rfl ?_
            refine G_iload_n (i := 2) C 73 dX11_unwinds_72 rfl rfl rfl ?_
            refine G_callv 76 (G_runV C Kc_X11_puts KV_X11_127 (by omega) (by decide) (eM _ _ _) rfl (c_X11_puts 0 s68 t (z0 + cs1.length) (by rw [es68, g_up_sj, if_neg (by decide), es32, g_up_sj, if_neg (by decide)]; exact hS.1) (by rw [es68, g_up_sj, if_neg (by decide), es32, g_up_sj, if_neg (by decide)]; exact hS.2.2.2.1) ht6 (by omega) x43) rfl rfl rfl (Nat.le_of_ble_eq_true rfl) rfl dX11_unwinds_73) rfl (fun s73 h73 => ?_)
            have hS2 : t_S s73 t z0 h2 (cs1 ++ [c]) := t_S_put (a := s68) (by rw [es68, g_up_sj, if_neg (by decide), es32, g_up_sj, if_neg (by decide)]; exact hS.1) (by rw [es68, g_up_sj, if_neg (by decide), es32, g_up_sj, if_pos rfl]; exact Nx31) h25 (by rw [es68, g_up_n (by decide), es32, g_up_n (by decide)]; exact hS.2.2.2.2.1.2) (by rw [es68, g_up_n (by decide), es32, g_up_n (by decide)]; exact hS.2.2.2.2.2) (by rw [← Sx43]; exact h73)
            have hF2 : t_F t z0 s s73 := t_F.tr hF (t_F.tr (t_F.up0 es32 (by decide)) (t_F.tr (t_F.up0 es68 (by decide)) (t_F.put (by omega) (by omega) h73)))
            refine G_goto C 0 dX11_unwinds_76 rfl ?_
            refine G_drop (L' := [some (.ref (e_ad E 0)), some (.int x), none]) ⟨rfl, rfl, trivial⟩ ?_
            exact ih0 (k + 1) h2 (cs1 ++ [c])  s73 (by omega) (by rw [List.length_append, List.length_cons, List.length_nil]; omega) (fun q hq => hm q (List.mem_cons_of_mem _ hq)) (by rw [← hu, t_u_s (by omega)]) (hS2) (hF2) (by omega)
          ·
            have n53 : ¬ c = 13 := fun h => c53 ((g_eqN (a := c) (b := 13) (hx := Sx43) (hy := rfl) (by omega) (by omega)).mpr h)
            refine G_iload_n (i := 2) C 57 dX11_unwinds_56 rfl rfl rfl ?_
            refine G_bipush (v := 19) C 59 dX11_unwinds_57 rfl rfl ?_
            refine G_icmp_ne C 66 62 dX11_unwinds_59 rfl rfl (fun c59 => ?_) (fun c59 => ?_)
            ·
              have n59 : ¬ c = 19 := fun h => c59 ((g_eqN (a := c) (b := 19) (hx := Sx43) (hy := rfl) (by omega) (by omega)).mpr h)
              refine G_iconst (v := 0) C 67 dX11_unwinds_66 rfl rfl ?_
              refine G_isub C 68 dX11_unwinds_67 rfl (fun x67 ex67 => ?_)
              refine X11_124p C 71 dX11_unwinds_68 rfl (fun s68 es68 => ?_)
              have hr1 : 1 ≤ t_rk c := by omega
              have hc0 : ¬ c = 0 := fun z => by rw [z] at hr1; exact absurd hr1 (by decide)
              have hop : t_op (c :: h2) = t_op h2 := t_op_n h2 hc0 n53 n59
              have h25 : s68 0 25 = nI (t_op h2) := by
                rw [es68, g_up_sj, if_pos rfl, ex67, ex47, es32, g_up_sj, if_neg (by decide), hS.2.2.1, hop]
                exact Int32.sub_zero _
              refine G_aload_n (i := 0) C 72 dX11_unwinds_71 rfl rfl rfl ?_
              refine G_iload_n (i := 2) C 73 dX11_unwinds_72 rfl rfl rfl ?_
              refine G_callv 76 (G_runV C Kc_X11_puts KV_X11_127 (by omega) (by decide) (eM _ _ _) rfl (c_X11_puts 0 s68 t (z0 + cs1.length) (by rw [es68, g_up_sj, if_neg (by decide), es32, g_up_sj, if_neg (by decide)]; exact hS.1) (by rw [es68, g_up_sj, if_neg (by decide), es32, g_up_sj, if_neg (by decide)]; exact hS.2.2.2.1) ht6 (by omega) x43) rfl rfl rfl (Nat.le_of_ble_eq_true rfl) rfl dX11_unwinds_73) rfl (fun s73 h73 => ?_)
              have hS2 : t_S s73 t z0 h2 (cs1 ++ [c]) := t_S_put (a := s68) (by rw [es68, g_up_sj, if_neg (by decide), es32, g_up_sj, if_neg (by decide)]; exact hS.1) (by rw [es68, g_up_sj, if_neg (by decide), es32, g_up_sj, if_pos rfl]; exact Nx31) h25 (by rw [es68, g_up_n (by decide), es32, g_up_n (by decide)]; exact hS.2.2.2.2.1.2) (by rw [es68, g_up_n (by decide), es32, g_up_n (by decide)]; exact hS.2.2.2.2.2) (by rw [← Sx43]; exact h73)
              have hF2 : t_F t z0 s s73 := t_F.tr hF (t_F.tr (t_F.up0 es32 (by decide)) (t_F.tr (t_F.up0 es68 (by decide)) (t_F.put (by omega) (by omega) h73)))
              refine G_goto C 0 dX11_unwinds_76 rfl ?_
              refine G_drop (L' := [some (.ref (e_ad E 0)), some (.int x), none]) ⟨rfl, rfl, trivial⟩ ?_
              exact ih0 (k + 1) h2 (cs1 ++ [c])  s73 (by omega) (by rw [List.length_append, List.length_cons, List.length_nil]; omega) (fun q hq => hm q (List.mem_cons_of_mem _ hq)) (by rw [← hu, t_u_s (by omega)]) (hS2) (hF2) (by omega)
            ·
              have n59 : c = 19 := (g_eqN (a := c) (b := 19) (hx := Sx43) (hy := rfl) (by omega) (by omega)).mp c59
              refine G_iconst (v := 1) C 63 dX11_unwinds_62 rfl rfl ?_
              refine G_goto C 67 dX11_unwinds_63 rfl ?_
              refine G_isub C 68 dX11_unwinds_67 rfl (fun x67 ex67 => ?_)
              refine X11_124p C 71 dX11_unwinds_68 rfl (fun s68 es68 => ?_)
              have hr1 : 1 ≤ t_rk c := by omega
              have hc0 : ¬ c = 0 := fun z => by rw [z] at hr1; exact absurd hr1 (by decide)
              have hop : t_op (c :: h2) = t_op h2 + 1 := by rw [n59]; rfl
              have h25 : s68 0 25 = nI (t_op h2) := by
                rw [es68, g_up_sj, if_pos rfl, ex67, ex47, es32, g_up_sj, if_neg (by decide), hS.2.2.1, hop]
                exact nI_pred _
              refine G_aload_n (i := 0) C 72 dX11_unwinds_71 rfl rfl rfl ?_
              refine G_iload_n (i := 2) C 73 dX11_unwinds_72 rfl rfl rfl ?_
              refine G_callv 76 (G_runV C Kc_X11_puts KV_X11_127 (by omega) (by decide) (eM _ _ _) rfl (c_X11_puts 0 s68 t (z0 + cs1.length) (by rw [es68, g_up_sj, if_neg (by decide), es32, g_up_sj, if_neg (by decide)]; exact hS.1) (by rw [es68, g_up_sj, if_neg (by decide), es32, g_up_sj, if_neg (by decide)]; exact hS.2.2.2.1) ht6 (by omega) x43) rfl rfl rfl (Nat.le_of_ble_eq_true rfl) rfl dX11_unwinds_73) rfl (fun s73 h73 => ?_)
              have hS2 : t_S s73 t z0 h2 (cs1 ++ [c]) := t_S_put (a := s68) (by rw [es68, g_up_sj, if_neg (by decide), es32, g_up_sj, if_neg (by decide)]; exact hS.1) (by rw [es68, g_up_sj, if_neg (by decide), es32, g_up_sj, if_pos rfl]; exact Nx31) h25 (by rw [es68, g_up_n (by decide), es32, g_up_n (by decide)]; exact hS.2.2.2.2.1.2) (by rw [es68, g_up_n (by decide), es32, g_up_n (by decide)]; exact hS.2.2.2.2.2) (by rw [← Sx43]; exact h73)
              have hF2 : t_F t z0 s s73 := t_F.tr hF (t_F.tr (t_F.up0 es32 (by decide)) (t_F.tr (t_F.up0 es68 (by decide)) (t_F.put (by omega) (by omega) h73)))
              refine G_goto C 0 dX11_unwinds_76 rfl ?_
              refine G_drop (L' := [some (.ref (e_ad E 0)), some (.int x), none]) ⟨rfl, rfl, trivial⟩ ?_
              exact ih0 (k + 1) h2 (cs1 ++ [c])  s73 (by omega) (by rw [List.length_append, List.length_cons, List.length_nil]; omega) (fun q hq => hm q (List.mem_cons_of_mem _ hq)) (by rw [← hu, t_u_s (by omega)]) (hS2) (hF2) (by omega)
  exact L0 (h.length + 1) 0 h cs  s (by omega) (rfl) (hm0) (rfl) (hS0) (t_F.rf) (by omega)
