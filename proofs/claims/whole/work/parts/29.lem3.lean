theorem l_addN {x a b : Int64} {m n : Nat} (h : x = a + b) (ha : a = lN m) (hb : b = lN n) : x = lN (m + n) := by rw [h, ha, hb, lN_add]
theorem l_mulN {x a b : Int64} {m n : Nat} (h : x = a * b) (ha : a = lN m) (hb : b = lN n) : x = lN (m * n) := by rw [h, ha, hb, lN_mul]
theorem l_remN {x a b : Int64} {m n : Nat} (h : x = a - a / b * b) (ha : a = lN m) (hb : b = lN n) (hm : m < 2 ^ 63) (h0 : 0 < n) (hn : n < 2 ^ 63) : x = lN (m % n) := by rw [h, ha, hb, pk_lRem hm h0 hn]
theorem l_divN {x a b : Int64} {m n : Nat} (h : x = a / b) (ha : a = lN m) (hb : b = lN n) (hm : m < 2 ^ 63) (h0 : 0 < n) (hn : n < 2 ^ 63) : x = lN (m / n) := by rw [h, ha, hb, pk_lDiv hm h0 hn]
theorem l_toI {x : Int32} {a : Int64} {m : Nat} (h : x = a.toInt32) (ha : a = lN m) : x = nI m := by rw [h, ha, lN_i]
theorem i_toL {x : Int64} {a : Int32} {m : Nat} (h : x = a.toInt64) (ha : a = nI m) (hm : m < 2 ^ 31) : x = lN m := by rw [h, ha, nI_l hm]
theorem fa_litL_0 : (0 : Int64) = lN 0 := rfl
theorem fa_litL_1 : (1 : Int64) = lN 1 := rfl
theorem fa_litL_6 : (6 : Int64) = lN 6 := rfl
theorem fa_litL_10 : (10 : Int64) = lN 10 := rfl
theorem fa_litL_48271 : (48271 : Int64) = lN 48271 := rfl
theorem fa_litL_2147483647 : (2147483647 : Int64) = lN 2147483647 := rfl
theorem bt_z {x : Int32} (h : ∀ t, t < 32 → x.toBitVec.getLsbD t = false) : x = 0 := bt_ext fun t ht => by
  rw [h t ht]
  show false = (0#32).getLsbD t
  simp
theorem x_wset_one (TX : gTX) (P : gS) (p : Nat) {t : Nat} (ht : t < 10) : x_wset TX P p ((1 : Int32) <<< (nI t &&& 31)) 10 = 0 ↔ x_wishes TX P p t = 0 := by
  have hb := fun k hk => wset_bt TX P p ((1 : Int32) <<< (nI t &&& 31)) 10 (by omega) k hk
  simp only [bt_one t (by omega), BitVec.getLsbD_twoPow] at hb
  constructor
  · intro h
    have := hb t (by omega)
    rw [h] at this
    apply Classical.byContradiction
    intro q
    simp [ht, q, show t < 32 by omega] at this
  · intro h
    refine bt_z fun k hk => ?_
    rw [hb k hk]
    by_cases e : t = k
    · subst e
      simp [h]
    · simp [e]
theorem x_mays_one (TX : gTX) (P : gS) (c : Int32) {t : Nat} (ht : t < 10) : x_mays TX P c ((1 : Int32) <<< (nI t &&& 31)) = 0 ↔ x_may TX P c t = 0 := by
  have hb := fun k hk => mays_bt TX P c ((1 : Int32) <<< (nI t &&& 31)) 10 (by omega) k hk
  simp only [bt_one t (by omega), BitVec.getLsbD_twoPow] at hb
  unfold x_mays
  constructor
  · intro h
    have := hb t (by omega)
    rw [h] at this
    apply Classical.byContradiction
    intro q
    simp [ht, q, show t < 32 by omega] at this
  · intro h
    refine bt_z fun k hk => ?_
    rw [hb k hk]
    by_cases e : t = k
    · subst e
      simp [h]
    · simp [e]
theorem bt_xor1024 {x y : Int32} (hx : ∃ m, m < 1024 ∧ x = nI m) (hy : ∃ m, m < 1024 ∧ y = nI m) : ∃ m, m < 1024 ∧ x ^^^ y = nI m := by
  obtain ⟨a, ha, rfl⟩ := hx
  obtain ⟨b, hb, rfl⟩ := hy
  refine bt_of fun t ht _ => ?_
  rw [Int32.toBitVec_xor, BitVec.getLsbD_xor, bt_lt ha ht, bt_lt hb ht]
  rfl
theorem cB_so {s B : gS} (h : cB s = B) {u : Nat} (hu : u < 4) : s (30 + 2 * u) 1 = B 2 u := by
  rw [← h]
  exact (if_pos hu).symm
theorem cB_sz {s B : gS} (h : cB s = B) {u : Nat} (hu : u < 4) : s (30 + 2 * u) 2 = B 3 u := by
  rw [← h]
  exact (if_pos hu).symm
theorem cB_nu {s B : gS} (h : cB s = B) {u j : Nat} (hu : u < 4) (hj : j < 40) : s (30 + 2 * u + 1) j = B (4 + u) j := by
  rw [← h]
  have : u = 0 ∨ u = 1 ∨ u = 2 ∨ u = 3 := by omega
  rcases this with rfl | rfl | rfl | rfl <;> exact (if_pos hj).symm
theorem s_refI {B : gS} (hb : ∀ s, s < 4 → shI B s) {s : Int32} (h : s_ref B s = 0) : ∃ u, u < 4 ∧ s = nI u ∧ s.toNatClampNeg = u ∧ ∃ z, z ≤ 20 ∧ B 3 u = nI z := by
  unfold s_ref at h
  split at h
  · exact absurd h (by decide)
  · rename_i h1
    obtain ⟨u, hu, e⟩ := x_inR (b := 3) h1 rfl (by decide)
    have c : s.toNatClampNeg = u := by rw [e, nI_clamp (by omega)]
    rw [c] at h
    refine ⟨u, by omega, e, c, ?_⟩
    split at h
    · exact absurd h (by decide)
    · rename_i h2
      split at h
      · exact absurd h (by decide)
      · rename_i h3
        rcases hb u (by omega) with ⟨h4, _⟩ | ⟨so, z, hso, hz, e1, e2⟩
        · exact absurd h4 h2
        · refine ⟨z, ?_, e2⟩
          rw [e2, show (20 : Int32) = nI 20 from rfl, nI_ltI (by omega) (by omega)] at h3
          omega
theorem g_cd {y x : Int32} {a j : Nat} (hy : y = nI a - nI j) (h : x = y + (-1)) : x = nI a - nI (j + 1) := by
  rw [h, hy, ← nI_1, Int32.sub_eq_add_neg, Int32.sub_eq_add_neg, Int32.neg_add, Int32.add_assoc, Int32.sub_eq_add_neg]
theorem x_rd_r (T : Nat → Int32) (a : Int32) : ∀ k, x_rd T a k ≤ 511 := by
  intro k
  induction k with
  | zero => exact Nat.le_refl _
  | succ k ih =>
    unfold x_rd
    split
    · exact ih
    · split
      · omega
      · exact ih
theorem x_sum_r {P : gS} (h : eI P) : ∀ k, k ≤ 10 → ∃ a, a ≤ 99 * k ∧ x_sum P k = nI a := by
  intro k
  induction k with
  | zero => intro _; exact ⟨0, by decide, rfl⟩
  | succ k ih =>
    intro hk
    obtain ⟨a, ha, e⟩ := ih (by omega)
    unfold x_sum
    rw [e]
    split
    · exact ⟨a, by omega, rfl⟩
    · obtain ⟨b, hb, e2⟩ := h k (by omega)
      exact ⟨a + b, by omega, by rw [e2, nI_add]⟩
theorem x_cnt_pos : ∀ m, m < 1024 → m ≠ 0 → x_cnt (nI m) ≠ 0 := by decide +kernel
theorem cI_sh {TX : gTX} {nT n l w : Nat} {P s s' : gS} (h : cI TX nT n l w P s) (f : Fr (fun k => 30 ≤ k ∧ k < 38) s s') : cI TX nT n l w P s' := by
  obtain ⟨h1, h2, h3, h4⟩ := h
  have hw := isW_lo h1
  refine ⟨h1, ?_, h3, fun t ht => cT_fr f ?_ ?_ (h4 t ht)⟩
  · rw [cv_fr f (fun i hi => by omega)]
    exact h2
  · have := Nat.lt_of_lt_of_le ht h3.2.2.2.2.1
    omega
  · have := Nat.lt_of_lt_of_le ht h3.2.2.2.2.1
    omega
def mQs (u k : Nat) : Prop := mQ k ∨ k = 30 + 2 * u ∨ k = 30 + 2 * u + 1
theorem cI_qs {TX : gTX} {nT n l u : Nat} (hu : u < 4) {P σ σ' : gS} (hI : cI TX nT n l 45 P σ) (h : Fr (mQs u) σ σ') : cI TX nT n l 45 P σ' := by
  obtain ⟨h1, h2, h3, h4⟩ := hI
  refine ⟨h1, ?_, h3, fun t ht => cT_fr h ?_ ?_ (h4 t ht)⟩
  · rw [cv_fr h (fun i hi => by unfold mQs mQ mW mS; omega)]
    exact h2
  · have := Nat.lt_of_lt_of_le ht h3.2.2.2.2.1
    unfold mQs mQ mW mS
    omega
  · have := Nat.lt_of_lt_of_le ht h3.2.2.2.2.1
    unfold mQs mQ mW mS
    omega
def s_shU (B : gS) (u : Nat) (so sz : Int32) (nf : Nat → Int32) : gS := g_set (g_up (g_up B 2 u so) 3 u sz) (4 + u) nf
theorem s_shU_o {B : gS} {u : Nat} {so sz : Int32} {nf : Nat → Int32} {a : Nat} (h2 : a ≠ 2) (h3 : a ≠ 3) (h4 : a ≠ 4 + u) : s_shU B u so sz nf a = B a := by
  unfold s_shU
  rw [g_set_n _ _ h4, g_up_n h3, g_up_n h2]
theorem s_shU_2 {B : gS} {u : Nat} {so sz : Int32} {nf : Nat → Int32} (j : Nat) : s_shU B u so sz nf 2 j = if j = u then so else B 2 j := by
  unfold s_shU
  rw [g_set_n _ _ (by omega), g_up_n (by decide), g_up_sj]
theorem s_shU_3 {B : gS} {u : Nat} {so sz : Int32} {nf : Nat → Int32} (j : Nat) : s_shU B u so sz nf 3 j = if j = u then sz else B 3 j := by
  unfold s_shU
  rw [g_set_n _ _ (by omega), g_up_sj, g_up_n (by decide)]
theorem s_shU_4 {B : gS} {u : Nat} {so sz : Int32} {nf : Nat → Int32} : s_shU B u so sz nf (4 + u) = nf := by
  unfold s_shU
  rw [g_set_s]
theorem bI_sh {TX : gTX} {nT n u : Nat} {P B : gS} (h : bI TX nT n P B) (hu : u < 4) {so sz : Int32} {nf : Nat → Int32} (hs : (so = -1 ∧ sz = 0) ∨ ∃ a z, a < 3 ∧ z ≤ 40 ∧ so = nI a ∧ sz = nI z) : bI TX nT n P (s_shU B u so sz nf) := by
  obtain ⟨b1, b2, b3, b4, b5, b6, b7⟩ := h
  have e0 : s_shU B u so sz nf 0 = B 0 := s_shU_o (by decide) (by decide) (by omega)
  have e1 : s_shU B u so sz nf 1 = B 1 := s_shU_o (by decide) (by decide) (by omega)
  have ek : (fun a => s_shU B u so sz nf (a + 8)) = fun a => B (a + 8) := by
    funext a
    exact s_shU_o (by omega) (by omega) (by omega)
  refine ⟨by rw [e0]; exact b1, by rw [e0]; exact b2, by rw [e1]; exact b3, by rw [e0]; exact b4, fun s hs4 => ?_, b6, by rw [e0, ek]; exact b7⟩
  unfold shI
  rw [s_shU_2, s_shU_3]
  by_cases e : s = u
  · rw [if_pos e, if_pos e]
    exact hs
  · rw [if_neg e, if_neg e]
    exact b5 s hs4
theorem Rc_sh {TX : gTX} {nT n l u : Nat} {P B s s' : gS} (h : Rc TX nT n l P B s) (hu : u < 4) (f : Fr (mQs u) s s') {so sz : Int32} {nf : Nat → Int32} (hs : (so = -1 ∧ sz = 0) ∨ ∃ a z, a < 3 ∧ z ≤ 40 ∧ so = nI a ∧ sz = nI z) (e1 : s' (30 + 2 * u) 1 = so) (e2 : s' (30 + 2 * u) 2 = sz) (e3 : ∀ j, j < 40 → s' (30 + 2 * u + 1) j = nf j) (e4 : ∀ j, 40 ≤ j → nf j = 0) : Rc TX nT n l P (s_shU B u so sz nf) s' := by
  obtain ⟨h1, h2, h3⟩ := h
  refine ⟨cI_qs hu h1 f, ?_, bI_sh h3 hu hs⟩
  have fo : ∀ k, k ≠ 30 + 2 * u → k ≠ 30 + 2 * u + 1 → 30 ≤ k → k < 38 → s' k = s k := fun k q1 q2 q3 q4 => f k (by unfold mQs mQ mW mS; omega)
  have f0 : s' 0 = s 0 := f 0 (by unfold mQs mQ mW mS; omega)
  have f3 : s' 3 = s 3 := f 3 (by unfold mQs mQ mW mS; omega)
  have f4 : s' 4 = s 4 := f 4 (by unfold mQs mQ mW mS; omega)
  have fc : cv s' 63 = cv s 63 := cv_fr f (fun i hi => by unfold mQs mQ mW mS; omega)
  funext a
  by_cases a2 : a = 2
  · subst a2
    funext j
    rw [s_shU_2]
    show (if j < 4 then s' (30 + 2 * j) 1 else 0) = _
    by_cases e : j = u
    · subst e
      rw [if_pos hu, if_pos rfl, e1]
    · rw [if_neg e, ← h2]
      show _ = if j < 4 then s (30 + 2 * j) 1 else 0
      by_cases q : j < 4
      · rw [if_pos q, if_pos q, fo _ (by omega) (by omega) (by omega) (by omega)]
      · rw [if_neg q, if_neg q]
  by_cases a3 : a = 3
  · subst a3
    funext j
    rw [s_shU_3]
    show (if j < 4 then s' (30 + 2 * j) 2 else 0) = _
    by_cases e : j = u
    · subst e
      rw [if_pos hu, if_pos rfl, e2]
    · rw [if_neg e, ← h2]
      show _ = if j < 4 then s (30 + 2 * j) 2 else 0
      by_cases q : j < 4
      · rw [if_pos q, if_pos q, fo _ (by omega) (by omega) (by omega) (by omega)]
      · rw [if_neg q, if_neg q]
  by_cases a4 : a = 4 + u
  · subst a4
    rw [s_shU_4]
    funext j
    have key : cB s' (4 + u) j = if j < 40 then s' (30 + 2 * u + 1) j else 0 := by
      have : u = 0 ∨ u = 1 ∨ u = 2 ∨ u = 3 := by omega
      rcases this with rfl | rfl | rfl | rfl <;> rfl
    rw [key]
    by_cases q : j < 40
    · rw [if_pos q, e3 j q]
    · rw [if_neg q, e4 j (by omega)]
  rw [s_shU_o a2 a3 a4, ← h2]
  rcases a with _ | _ | _ | _ | _ | _ | _ | _ | a
  · show (fun j => if j = 0 then s' 0 8 else if j = 1 then s' 3 1 else if j = 2 then s' 0 7 else 0) = fun j => if j = 0 then s 0 8 else if j = 1 then s 3 1 else if j = 2 then s 0 7 else 0
    rw [f0, f3]
  · show (fun j => if j < (s' 3 1).toNatClampNeg then s' 4 j else 0) = fun j => if j < (s 3 1).toNatClampNeg then s 4 j else 0
    rw [f3, f4]
  · exact absurd rfl a2
  · exact absurd rfl a3
  · show (fun j => if j < 40 then s' 31 j else 0) = fun j => if j < 40 then s 31 j else 0
    rw [fo 31 (by omega) (by omega) (by omega) (by omega)]
  · show (fun j => if j < 40 then s' 33 j else 0) = fun j => if j < 40 then s 33 j else 0
    rw [fo 33 (by omega) (by omega) (by omega) (by omega)]
  · show (fun j => if j < 40 then s' 35 j else 0) = fun j => if j < 40 then s 35 j else 0
    rw [fo 35 (by omega) (by omega) (by omega) (by omega)]
  · show (fun j => if j < 40 then s' 37 j else 0) = fun j => if j < 40 then s 37 j else 0
    rw [fo 37 (by omega) (by omega) (by omega) (by omega)]
  · show (if s' 0 7 = 0 then fun _ => 0 else cv s' 63 a) = (if s 0 7 = 0 then fun _ => 0 else cv s 63 a)
    rw [f0, fc]
