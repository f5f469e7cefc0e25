def mF (k : Nat) : Prop := k = 10 ∨ k = 11 ∨ k = 12 ∨ mK k
def Qk (a b : gS) : Prop := b 1 = a 1 ∧ b 2 = a 2 ∧ b 6 = a 6 ∧ b 7 = a 7 ∧ b 0 0 = a 0 0 ∧ b 0 10 = a 0 10
theorem Qk.rf {a : gS} : Qk a a := ⟨rfl, rfl, rfl, rfl, rfl, rfl⟩
theorem Qk.tr {a b c : gS} (h : Qk a b) (g : Qk b c) : Qk a c := ⟨g.1.trans h.1, g.2.1.trans h.2.1, g.2.2.1.trans h.2.2.1, g.2.2.2.1.trans h.2.2.2.1, g.2.2.2.2.1.trans h.2.2.2.2.1, g.2.2.2.2.2.trans h.2.2.2.2.2⟩
theorem Qk.fr {m : Nat → Prop} {a b : gS} (f : Fr m a b) (h0 : ¬ m 0) (h1 : ¬ m 1) (h2 : ¬ m 2) (h6 : ¬ m 6) (h7 : ¬ m 7) : Qk a b := ⟨f 1 h1, f 2 h2, f 6 h6, f 7 h7, by rw [f 0 h0], by rw [f 0 h0]⟩
theorem Qk.u31 {a b : gS} {v : Int32} (e : b = g_up a 0 31 v) : Qk a b := ⟨by rw [e, g_up_n (by decide)], by rw [e, g_up_n (by decide)], by rw [e, g_up_n (by decide)], by rw [e, g_up_n (by decide)], by rw [e, g_up_sj, if_neg (by decide)], by rw [e, g_up_sj, if_neg (by decide)]⟩
theorem mI_u31 {TX : gTX} {nT n l : Nat} {P s s' : gS} {v : Int32} (h : mI TX nT n l P s) (e : s' = g_up s 0 31 v) : mI TX nT n l P s' :=
  ⟨by rw [mv_z0 (σ' := s') (fun k a b => by rw [e, g_up_n (by omega)]) (by rw [e, g_up_sj, if_neg (by decide)]) (by rw [e, g_up_sj, if_neg (by decide)])]; exact h.1, h.2.1, fun t ht => mT_fr (m := fun q => q = 0) (fun a ha => by rw [e, g_up_n ha]) (by decide) (by decide) (h.2.2 t ht)⟩
theorem mI_laysG {TX : gTX} {nT n l : Nat} {P P' s s2 s3 : gS} (hI : mI TX nT n l P s) (hk : kp s s2) (h2 : mI TX nT n l P' s2) (hP : P' 1 = P 1) (q : Qk s s2) (hl : ly s2 s3) (hf3 : Fr (fun q => q = 3 ∨ q = 4) s2 s3) : mI TX nT n l P s3 := by
  obtain ⟨q1, q2, q6, q7, q0, q10⟩ := q
  have e0 : s3 0 0 = s 0 0 := (congrFun (hf3 0 (by decide)) 0).trans q0
  have e10 : s3 0 10 = s 0 10 := (congrFun (hf3 0 (by decide)) 10).trans q10
  have e1 : s3 1 = s 1 := (hf3 1 (by decide)).trans q1
  have e2 : s3 2 = s 2 := (hf3 2 (by decide)).trans q2
  have e3 : s3 3 = s 3 := by
    funext j
    by_cases h : j < 24
    · rw [hl.1 j h, hk.1 j h]
    · rw [hl.2.2.1 j (by omega), hk.2.2 j (by omega)]
  have e4 : s3 4 = s 4 := by
    funext j
    by_cases h : j < 3
    · rw [hl.2.1 j h, hk.2.1 j h]
    · rw [hl.2.2.2 j (by omega)]
      obtain ⟨q, rfl⟩ : ∃ q, j = 3 + q := ⟨j - 3, by omega⟩
      have a1 : s2 4 (3 + q) = P' 1 q := mI_v h2 1 q
      have a2 : s 4 (3 + q) = P 1 q := mI_v hI 1 q
      rw [a1, a2, hP]
  refine ⟨?_, hI.2.1, fun t ht => ?_⟩
  · rw [← hI.1]
    exact mv_z0 (fun k h1 h5 => by
      have : k = 1 ∨ k = 2 ∨ k = 3 ∨ k = 4 := by omega
      rcases this with rfl | rfl | rfl | rfl <;> assumption) e0 e10
  · have z := hI.2.2 t ht
    unfold mT at z ⊢
    rw [show s3 6 = s 6 from (hf3 6 (by decide)).trans q6, show s3 7 = s 7 from (hf3 7 (by decide)).trans q7]
    exact z
theorem Rm_sh {TX : gTX} {nT n l u : Nat} {P B s s' : gS} (h : Rm TX nT n l P B s) (hu : u < 4) (hI' : mI TX nT n l P s') (f : Fr mF s s') {so sz : Int32} {nf : Nat → Int32} (hs : (so = -1 ∧ sz = 0) ∨ ∃ a z, a < 3 ∧ z ≤ 40 ∧ so = nI a ∧ sz = nI z) (e1 : s' 10 = upd (s 10) u so) (e2 : s' 11 = upd (s 11) u sz) (e3 : ∀ j, j < 40 → s' 12 (40 * u + j) = nf j) (e3' : ∀ i, (∀ j, j < 40 → i ≠ 40 * u + j) → s' 12 i = s 12 i) (e4 : ∀ j, 40 ≤ j → nf j = 0) : Rm TX nT n l P (s_shU B u so sz nf) s' := by
  obtain ⟨h1, h2, h3⟩ := h
  refine ⟨hI', ?_, bI_sh h3 hu hs⟩
  have f0 : s' 0 = s 0 := f 0 (by unfold mF mK; omega)
  have f5 : s' 5 = s 5 := f 5 (by unfold mF mK; omega)
  have fk : kv s' = kv s := by
    unfold kv
    rw [f 8 (by unfold mF mK; omega), f 9 (by unfold mF mK; omega), f 1 (by unfold mF mK; omega), f 2 (by unfold mF mK; omega)]
  funext a
  by_cases a2 : a = 2
  · subst a2
    funext j
    rw [s_shU_2]
    show (if j < 4 then s' 10 j else 0) = _
    rw [e1]
    unfold upd
    by_cases e : j = u
    · rw [if_pos (by omega), if_pos e, if_pos e]
    · rw [if_neg e, if_neg e, ← h2]
      rfl
  by_cases a3 : a = 3
  · subst a3
    funext j
    rw [s_shU_3]
    show (if j < 4 then s' 11 j else 0) = _
    rw [e2]
    unfold upd
    by_cases e : j = u
    · rw [if_pos (by omega), if_pos e, if_pos e]
    · rw [if_neg e, if_neg e, ← h2]
      rfl
  by_cases a4 : a = 4 + u
  · subst a4
    rw [s_shU_4]
    funext j
    have key : mB s' (4 + u) j = if j < 40 then s' 12 (40 * u + j) else 0 := by
      have : u = 0 ∨ u = 1 ∨ u = 2 ∨ u = 3 := by omega
      rcases this with rfl | rfl | rfl | rfl <;> rfl
    rw [key]
    by_cases q : j < 40
    · rw [if_pos q, e3 j q]
    · rw [if_neg q, e4 j (by omega)]
  rw [s_shU_o a2 a3 a4, ← h2]
  rcases a with _ | _ | _ | _ | _ | _ | _ | _ | a
  · show (fun j => if j = 0 then s' 0 9 else if j = 1 then s' 0 6 else if j = 2 then s' 0 11 else 0) = fun j => if j = 0 then s 0 9 else if j = 1 then s 0 6 else if j = 2 then s 0 11 else 0
    rw [f0]
  · show (fun j => if j < (s' 0 6).toNatClampNeg then s' 5 j else 0) = fun j => if j < (s 0 6).toNatClampNeg then s 5 j else 0
    rw [f0, f5]
  · exact absurd rfl a2
  · exact absurd rfl a3
  · funext j
    show (if j < 40 then s' 12 (40 * 0 + j) else 0) = if j < 40 then s 12 (40 * 0 + j) else 0
    by_cases q : j < 40
    · rw [if_pos q, if_pos q, e3' _ (fun i hi => by omega)]
    · rw [if_neg q, if_neg q]
  · funext j
    show (if j < 40 then s' 12 (40 * 1 + j) else 0) = if j < 40 then s 12 (40 * 1 + j) else 0
    by_cases q : j < 40
    · rw [if_pos q, if_pos q, e3' _ (fun i hi => by omega)]
    · rw [if_neg q, if_neg q]
  · funext j
    show (if j < 40 then s' 12 (40 * 2 + j) else 0) = if j < 40 then s 12 (40 * 2 + j) else 0
    by_cases q : j < 40
    · rw [if_pos q, if_pos q, e3' _ (fun i hi => by omega)]
    · rw [if_neg q, if_neg q]
  · funext j
    show (if j < 40 then s' 12 (40 * 3 + j) else 0) = if j < 40 then s 12 (40 * 3 + j) else 0
    by_cases q : j < 40
    · rw [if_pos q, if_pos q, e3' _ (fun i hi => by omega)]
    · rw [if_neg q, if_neg q]
  · show (if s' 0 11 = 0 then fun _ => 0 else kv s' a) = (if s 0 11 = 0 then fun _ => 0 else kv s a)
    rw [f0, fk]
theorem upd_id (f : Nat → Int32) (u : Nat) : upd f u (f u) = f := by
  funext j
  unfold upd
  split
  · rename_i e
    rw [e]
  · rfl
theorem Rm_num {TX : gTX} {nT n l u : Nat} {P B s s' : gS} (h : Rm TX nT n l P B s) (hu : u < 4) (f : Fr (fun q => q = 12) s s') {nB : Nat → Int32} (e3 : ∀ j, j < 40 → s' 12 (40 * u + j) = nB j) (e3' : ∀ i, (∀ j, j < 40 → i ≠ 40 * u + j) → s' 12 i = s 12 i) (h40 : ∀ j, 40 ≤ j → nB j = 0) : Rm TX nT n l P (g_set B (4 + u) nB) s' := by
  have hI' : mI TX nT n l P s' := mI_f h.1 f (by decide) (by decide) (by decide) (by decide) (by decide) (by decide) (by decide)
  rw [← s_shU_num]
  refine Rm_sh h hu hI' (f.mono (fun k hk => Or.inr (Or.inr (Or.inl hk)))) (h.2.2.2.2.2.2.1 u hu) ?_ ?_ e3 e3' h40
  · rw [f 10 (by decide), ← mB_so h.2.1 hu, upd_id]
  · rw [f 11 (by decide), ← mB_sz h.2.1 hu, upd_id]
theorem Rm_img {TX : gTX} {nT n l : Nat} {P B s s' : gS} (h : Rm TX nT n l P B s) (f : Fr (fun k => k = 0 ∨ k = 8 ∨ k = 9) s s') (f0 : ∀ j, j ≠ 11 → s' 0 j = s 0 j) (e11 : s' 0 11 = 1) (e8 : ∀ j, j < 24 → s' 8 j = s 3 j) (e8' : ∀ j, j < 13 → s' 8 (24 + j) = s 4 j) (e9 : s' 9 0 = s 0 0) (e9' : s' 9 1 = s 0 10) (z3 : ∀ j, 24 ≤ j → s 3 j = 0) (z4 : ∀ j, 13 ≤ j → s 4 j = 0) : Rm TX nT n l P (s_img P B) s' := by
  obtain ⟨⟨c2, c3, c4⟩, h2, b1, b2, b3, b4, b5, b6, b7⟩ := h
  have zk : kv s' = P := by
    rw [← c2]
    funext a j
    rcases a with _ | _ | _ | _ | _ | _ | _ | _ | a
    · show (if j = 0 then s' 8 24 else if j = 1 then s' 8 25 else if j = 2 then s' 8 26 else if j = 3 then s' 9 1 else if j = 4 then s' 9 0 else 0) = if j = 0 then s 4 0 else if j = 1 then s 4 1 else if j = 2 then s 4 2 else if j = 3 then s 0 10 else if j = 4 then s 0 0 else 0
      rw [e9, e9', show s' 8 24 = s 4 0 from e8' 0 (by decide), show s' 8 25 = s 4 1 from e8' 1 (by decide), show s' 8 26 = s 4 2 from e8' 2 (by decide)]
    · show (if j < 10 then s' 8 (27 + j) else 0) = s 4 (3 + j)
      by_cases q : j < 10
      · rw [if_pos q, show 27 + j = 24 + (3 + j) by omega, e8' _ (by omega)]
      · rw [if_neg q, z4 _ (by omega)]
    · show (if j < 6 then s' 8 (4 * j) else 0) = s 3 (4 * j)
      by_cases q : j < 6
      · rw [if_pos q, e8 _ (by omega)]
      · rw [if_neg q, z3 _ (by omega)]
    · show (if j < 6 then s' 8 (4 * j + 1) else 0) = s 3 (4 * j + 1)
      by_cases q : j < 6
      · rw [if_pos q, e8 _ (by omega)]
      · rw [if_neg q, z3 _ (by omega)]
    · show (if j < 6 then s' 8 (4 * j + 2) else 0) = s 3 (4 * j + 2)
      by_cases q : j < 6
      · rw [if_pos q, e8 _ (by omega)]
      · rw [if_neg q, z3 _ (by omega)]
    · show (if j < 6 then s' 8 (4 * j + 3) else 0) = s 3 (4 * j + 3)
      by_cases q : j < 6
      · rw [if_pos q, e8 _ (by omega)]
      · rw [if_neg q, z3 _ (by omega)]
    · show (if j < (s' 9 0).toNatClampNeg then s' 1 j else 0) = if j < (s 0 0).toNatClampNeg then s 1 j else 0
      rw [e9, f 1 (by decide)]
    · show (if j < (s' 9 0).toNatClampNeg then s' 2 j else 0) = if j < (s 0 0).toNatClampNeg then s 2 j else 0
      rw [e9, f 2 (by decide)]
    · simp [kv, mv]
  have ei : ∀ a, a < 8 → a ≠ 0 → s_img P B a = B a := fun a h1 h2 => by
    unfold s_img
    rw [if_pos h1, if_neg h2]
  have e8i : ∀ a, s_img P B (a + 8) = P a := fun a => by
    unfold s_img
    rw [if_neg (by omega), Nat.add_sub_cancel]
  have e0 : s_img P B 0 = upd (B 0) 2 1 := rfl
  refine ⟨⟨?_, c3, fun t ht => mT_fr f (by decide) (by decide) (c4 t ht)⟩, ?_, ?_⟩
  · rw [mv_z0 (fun k a b => f k (by omega)) (f0 0 (by decide)) (f0 10 (by decide))]
    exact c2
  · funext a
    rcases a with _ | _ | _ | _ | _ | _ | _ | _ | a
    · rw [e0, ← h2]
      funext j
      show (if j = 0 then s' 0 9 else if j = 1 then s' 0 6 else if j = 2 then s' 0 11 else 0) = if j = 2 then 1 else (if j = 0 then s 0 9 else if j = 1 then s 0 6 else if j = 2 then s 0 11 else 0)
      rw [f0 9 (by decide), f0 6 (by decide), e11]
      by_cases q0 : j = 0
      · simp [q0]
      · by_cases q1 : j = 1
        · simp [q1]
        · by_cases q2 : j = 2 <;> simp [q0, q1, q2]
    · rw [ei _ (by decide) (by decide), ← h2]
      show (fun j => if j < (s' 0 6).toNatClampNeg then s' 5 j else 0) = fun j => if j < (s 0 6).toNatClampNeg then s 5 j else 0
      rw [f0 6 (by decide), f 5 (by decide)]
    · rw [ei _ (by decide) (by decide), ← h2]
      show (fun j => if j < 4 then s' 10 j else 0) = fun j => if j < 4 then s 10 j else 0
      rw [f 10 (by decide)]
    · rw [ei _ (by decide) (by decide), ← h2]
      show (fun j => if j < 4 then s' 11 j else 0) = fun j => if j < 4 then s 11 j else 0
      rw [f 11 (by decide)]
    · rw [ei _ (by decide) (by decide), ← h2]
      show (fun j => if j < 40 then s' 12 (40 * 0 + j) else 0) = fun j => if j < 40 then s 12 (40 * 0 + j) else 0
      rw [f 12 (by decide)]
    · rw [ei _ (by decide) (by decide), ← h2]
      show (fun j => if j < 40 then s' 12 (40 * 1 + j) else 0) = fun j => if j < 40 then s 12 (40 * 1 + j) else 0
      rw [f 12 (by decide)]
    · rw [ei _ (by decide) (by decide), ← h2]
      show (fun j => if j < 40 then s' 12 (40 * 2 + j) else 0) = fun j => if j < 40 then s 12 (40 * 2 + j) else 0
      rw [f 12 (by decide)]
    · rw [ei _ (by decide) (by decide), ← h2]
      show (fun j => if j < 40 then s' 12 (40 * 3 + j) else 0) = fun j => if j < 40 then s 12 (40 * 3 + j) else 0
      rw [f 12 (by decide)]
    · rw [e8i]
      show (if s' 0 11 = 0 then fun _ => 0 else kv s' a) = P a
      rw [e11, if_neg (by decide), zk]
  · have ek : (fun a => s_img P B (a + 8)) = P := funext e8i
    refine ⟨b1, b2, fun j => ?_, Or.inr rfl, fun s hs => ?_, b6, fun _ => ?_⟩
    · rw [ei 1 (by decide) (by decide)]
      exact b3 j
    · have := b5 s hs
      unfold shI at this ⊢
      rw [ei 2 (by decide) (by decide), ei 3 (by decide) (by decide)]
      exact this
    · rw [ek]
      exact ⟨n, l, c3, Nat.le_refl n, fun j hj => ⟨rfl, rfl⟩, b6⟩
theorem RM_bac {TX : gTX} {nT n l : Nat} {P B s s' : gS} (h : Rm TX nT n l P B s) (hq : B 0 2 = 1) (f : Fr (fun k => k = 0 ∨ k = 3 ∨ k = 4) s s') (f0 : ∀ j, j ≠ 0 → j ≠ 10 → s' 0 j = s 0 j) (e3 : ∀ j, j < 24 → s' 3 j = s 8 j) (e4 : ∀ j, j < 13 → s' 4 j = s 8 (24 + j)) (z3 : ∀ j, 24 ≤ j → s' 3 j = 0) (z4 : ∀ j, 13 ≤ j → s' 4 j = 0) (e0 : s' 0 0 = s 9 0) (e10 : s' 0 10 = s 9 1) : RM TX (fun a => B (a + 8)) B s' ∧ s' 0 0 = B 8 4 := by
  obtain ⟨⟨c2, c3, c4⟩, h2, b1, b2, b3, b4, b5, b6, b7⟩ := h
  obtain ⟨nK, lK, k1, k2, k3, k4⟩ := b7 hq
  have hz : s 0 11 = 1 := by
    rw [← hq, ← h2]
    rfl
  have ekv : kv s = fun a => B (a + 8) := by
    funext a
    rw [← h2]
    show _ = (if s 0 11 = 0 then fun _ => 0 else kv s a)
    rw [hz, if_neg (by decide)]
  have em : mv s' = kv s := by
    funext a j
    rcases a with _ | _ | _ | _ | _ | _ | _ | _ | a
    · show (if j = 0 then s' 4 0 else if j = 1 then s' 4 1 else if j = 2 then s' 4 2 else if j = 3 then s' 0 10 else if j = 4 then s' 0 0 else 0) = if j = 0 then s 8 24 else if j = 1 then s 8 25 else if j = 2 then s 8 26 else if j = 3 then s 9 1 else if j = 4 then s 9 0 else 0
      rw [e0, e10, show s' 4 0 = s 8 24 from e4 0 (by decide), show s' 4 1 = s 8 25 from e4 1 (by decide), show s' 4 2 = s 8 26 from e4 2 (by decide)]
    · show s' 4 (3 + j) = if j < 10 then s 8 (27 + j) else 0
      by_cases q : j < 10
      · rw [if_pos q, e4 _ (by omega), show 24 + (3 + j) = 27 + j by omega]
      · rw [if_neg q, z4 _ (by omega)]
    · show s' 3 (4 * j) = if j < 6 then s 8 (4 * j) else 0
      by_cases q : j < 6
      · rw [if_pos q, e3 _ (by omega)]
      · rw [if_neg q, z3 _ (by omega)]
    · show s' 3 (4 * j + 1) = if j < 6 then s 8 (4 * j + 1) else 0
      by_cases q : j < 6
      · rw [if_pos q, e3 _ (by omega)]
      · rw [if_neg q, z3 _ (by omega)]
    · show s' 3 (4 * j + 2) = if j < 6 then s 8 (4 * j + 2) else 0
      by_cases q : j < 6
      · rw [if_pos q, e3 _ (by omega)]
      · rw [if_neg q, z3 _ (by omega)]
    · show s' 3 (4 * j + 3) = if j < 6 then s 8 (4 * j + 3) else 0
      by_cases q : j < 6
      · rw [if_pos q, e3 _ (by omega)]
      · rw [if_neg q, z3 _ (by omega)]
    · show (if j < (s' 0 0).toNatClampNeg then s' 1 j else 0) = if j < (s 9 0).toNatClampNeg then s 1 j else 0
      rw [e0, f 1 (by decide)]
    · show (if j < (s' 0 0).toNatClampNeg then s' 2 j else 0) = if j < (s 9 0).toNatClampNeg then s 2 j else 0
      rw [e0, f 2 (by decide)]
    · simp [kv, mv]
  refine ⟨⟨nT, nK, lK, ⟨em.trans ekv, k1, fun t ht => mT_fr f (by decide) (by decide) (c4 t ht)⟩, ?_, b1, b2, b3, b4, b5, k4, fun _ => ⟨nK, lK, k1, Nat.le_refl _, fun j hj => ⟨rfl, rfl⟩, k4⟩⟩, ?_⟩
  · rw [← h2]
    have ek : kv s' = kv s := by
      unfold kv
      rw [f 8 (by decide), f 9 (by decide), f 1 (by decide), f 2 (by decide)]
    funext a
    unfold mB
    rw [f0 9 (by decide) (by decide), f0 6 (by decide) (by decide), f0 11 (by decide) (by decide), f 5 (by decide), f 10 (by decide), f 11 (by decide), f 12 (by decide), ek]
  · rw [e0]
    exact congrFun (congrFun ekv 0) 4
