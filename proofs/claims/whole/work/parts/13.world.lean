theorem x_bit01 (s p : Int32) : x_bit s p = 0 ∨ x_bit s p = 1 := by
  unfold x_bit
  obtain ⟨j, hj, e⟩ := pk_andE (s >>> (p &&& 31)) (m := 1) 1 (by decide)
  rw [e]
  have : j = 0 ∨ j = 1 := by omega
  rcases this with rfl | rfl
  · exact Or.inl rfl
  · exact Or.inr rfl
theorem x_isInE (s p : Int32) : x_isIn s p = x_bit s p := by
  unfold x_isIn
  rcases x_bit01 s p with h | h
  · rw [if_pos h, h]
  · rw [h, if_neg (by decide)]
theorem Fr.val {t : Nat} {a b : gS} (ht : t < 6) (h : Fr (fun q => q = 6 + 4 * t + 3) a b) : Fr mS a b := h.mono (fun k hk => by rw [hk]; exact mS_val ht)
theorem Fr.S {w : Nat} {a b : gS} (h : Fr mS a b) : Fr (mW w) a b := h.mono (fun _ hk => Or.inl hk)
theorem cI_t {TX : gTX} {nT n l w : Nat} {P σ : gS} (hI : cI TX nT n l w P σ) : cT TX σ l := hI.2.2.2 l hI.2.2.1.2.2.2.1
theorem cI_l6 {TX : gTX} {nT n l w : Nat} {P σ : gS} (hI : cI TX nT n l w P σ) : l < 6 := Nat.lt_of_lt_of_le hI.2.2.1.2.2.2.1 hI.2.2.1.2.2.2.2.1
theorem cI_h {TX : gTX} {nT n l w : Nat} {P σ : gS} (hI : cI TX nT n l w P σ) {j : Nat} (hj : j < 3) : x_ht (TX l j) 0 = some 1 := hI.2.2.1.2.2.2.2.2.2.1 l hI.2.2.1.2.2.2.1 j hj
theorem cI_law {TX : gTX} {nT n l w : Nat} {P σ : gS} (hI : cI TX nT n l w P σ) : (P 0 3).toNatClampNeg = l := by
  have h := cI_l6 hI
  rw [hI.2.2.1.2.2.1, nI_clamp (by omega)]
theorem cI_p {TX : gTX} {nT n l w : Nat} {P σ : gS} (hI : cI TX nT n l w P σ) {p : Nat} (hp : p < n) : (∃ k, k < 6 ∧ P 6 p = nI k) ∧ (∃ k, k < 1024 ∧ P 3 p = nI k) ∧ ∃ k, k < 1024 ∧ P 4 p = nI k := hI.2.2.1.2.2.2.2.2.1 p hp
theorem x_asksE {TX : gTX} {nT n l w : Nat} {P σ : gS} (hI : cI TX nT n l w P σ) {p j : Nat} {bad : Int32} (hj : j < 3) {f : Nat → Int32} (hf : ∀ i, i < 6 → f i = x_nm P p bad i) : x_clamp (x_lo j) (x_say f (TX l j)) = x_asks TX P j p bad := by
  unfold x_asks
  rw [cI_law hI, x_say_congr hf (cI_h hI hj)]
theorem x_hearsU {k u u' m h : Int32} (e : u = 1 ↔ u' = 1) : x_hears k u m h = x_hears k u' m h := by
  unfold x_hears x_hearsD
  simp only [e]
theorem x_lis01 (P : gS) (p : Nat) : x_lis P p = 0 ∨ x_lis P p = 1 := by
  unfold x_lis
  rw [x_hearsU (u' := if P 5 p = 1 then 1 else 0) (by split <;> simp [*])]
  exact x_hears01 (by split <;> simp)
theorem bt_x (s : Int32) : ∀ t, t < 32 → (x_bit s (nI t) = 0 ↔ s.toBitVec.getLsbD t = false) := by
  intro t ht
  have hs : ∀ t, t < 32 → ((nI t &&& 31).toBitVec.smod 32).toNat = t := by decide +kernel
  have e1 : (x_bit s (nI t)).toBitVec = (s.toBitVec.sshiftRight t) &&& 1#32 := by
    unfold x_bit
    rw [Int32.toBitVec_and, Int32.toBitVec_shiftRight]
    congr 1
    show s.toBitVec.sshiftRight' ((nI t &&& 31).toBitVec.smod 32) = _
    unfold BitVec.sshiftRight'
    rw [hs t ht]
  have key : (s.toBitVec.sshiftRight t).getLsbD 0 = s.toBitVec.getLsbD t := by
    rw [BitVec.getLsbD_sshiftRight]
    simp [ht]
  have o1 : (1#32).getLsbD 0 = true := by decide
  have z1 : (0 : Int32).toBitVec.getLsbD 0 = false := by decide
  constructor
  · intro h
    rw [h] at e1
    have h2 := congrArg (fun b : BitVec 32 => b.getLsbD 0) e1
    change (0 : Int32).toBitVec.getLsbD 0 = (s.toBitVec.sshiftRight t &&& 1#32).getLsbD 0 at h2
    rw [BitVec.getLsbD_and, key, o1, z1, Bool.and_true] at h2
    exact h2.symm
  · intro h
    apply Int32.toBitVec_inj.mp
    rw [e1]
    apply BitVec.eq_of_getLsbD_eq
    intro i hi
    rw [BitVec.getLsbD_and]
    by_cases h0 : i = 0
    · subst h0
      rw [key, h, z1]
      rfl
    · have o2 : (1#32).getLsbD i = false := by
        simp [h0]
      rw [o2, Bool.and_false]
      show false = (0#32).getLsbD i
      simp
theorem bt_ext {x y : Int32} (h : ∀ t, t < 32 → x.toBitVec.getLsbD t = y.toBitVec.getLsbD t) : x = y := Int32.toBitVec_inj.mp (BitVec.eq_of_getLsbD_eq h)
theorem bt_one : ∀ k, k < 32 → ((1 : Int32) <<< (nI k &&& 31)).toBitVec = BitVec.twoPow 32 k := by decide +kernel
theorem bt_orp (a : Int32) {k : Nat} (hk : k < 32) (t : Nat) : (a ||| ((1 : Int32) <<< (nI k &&& 31))).toBitVec.getLsbD t = (a.toBitVec.getLsbD t || decide (t = k)) := by
  rw [Int32.toBitVec_or, BitVec.getLsbD_or, bt_one k hk, BitVec.getLsbD_twoPow]
  by_cases h : t = k
  · subst h
    simp [hk]
  · have h2 : ¬ k = t := fun q => h q.symm
    simp [h, h2]
theorem bt_andn (a b : Int32) {t : Nat} (ht : t < 32) : (a &&& (b ^^^ (-1))).toBitVec.getLsbD t = (a.toBitVec.getLsbD t && !b.toBitVec.getLsbD t) := by
  rw [Int32.toBitVec_and, BitVec.getLsbD_and, Int32.toBitVec_xor, BitVec.getLsbD_xor]
  have e : (-1 : Int32).toBitVec = BitVec.allOnes 32 := by decide
  rw [e, BitVec.getLsbD_allOnes]
  simp [ht]
theorem x_bit_andn (a b : Int32) {t : Nat} (ht : t < 32) : x_bit (a &&& (b ^^^ (-1))) (nI t) = 0 ↔ (x_bit a (nI t) = 0 ∨ ¬ x_bit b (nI t) = 0) := by
  rw [bt_x _ t ht, bt_x _ t ht, bt_x _ t ht, bt_andn a b ht]
  cases a.toBitVec.getLsbD t <;> cases b.toBitVec.getLsbD t <;> simp
theorem bt_lt {m : Nat} (hm : m < 1024) {t : Nat} (ht : 10 ≤ t) : (nI m).toBitVec.getLsbD t = false := by
  have h : m < 2 ^ 10 := hm
  show (BitVec.ofNat 32 m).getLsbD t = false
  rw [BitVec.getLsbD_ofNat]
  have : m.testBit t = false := Nat.testBit_lt_two_pow (Nat.lt_of_lt_of_le h (Nat.pow_le_pow_right (by decide) ht))
  simp [this]
theorem bt_of {x : Int32} (h : ∀ t, 10 ≤ t → t < 32 → x.toBitVec.getLsbD t = false) : ∃ m, m < 1024 ∧ x = nI m := by
  refine ⟨x.toBitVec.toNat, ?_, ?_⟩
  · have : x.toBitVec.toNat < 2 ^ 10 := by
      apply Nat.lt_pow_two_of_testBit
      intro i hi
      by_cases h2 : i < 32
      · exact h i hi h2
      · exact BitVec.getLsbD_of_ge _ _ (by omega)
    exact this
  · apply Int32.toBitVec_inj.mp
    show x.toBitVec = BitVec.ofNat 32 x.toBitVec.toNat
    simp
theorem bt_or1024 {x y : Int32} (hx : ∃ m, m < 1024 ∧ x = nI m) (hy : ∃ m, m < 1024 ∧ y = nI m) : ∃ m, m < 1024 ∧ x ||| y = nI m := by
  obtain ⟨a, ha, rfl⟩ := hx
  obtain ⟨b, hb, rfl⟩ := hy
  refine bt_of fun t ht _ => ?_
  rw [Int32.toBitVec_or, BitVec.getLsbD_or, bt_lt ha ht, bt_lt hb ht]
  rfl
theorem bt_and1024 {x : Int32} (y : Int32) (hx : ∃ m, m < 1024 ∧ x = nI m) : ∃ m, m < 1024 ∧ x &&& y = nI m := by
  obtain ⟨a, ha, rfl⟩ := hx
  refine bt_of fun t ht _ => ?_
  rw [Int32.toBitVec_and, BitVec.getLsbD_and, bt_lt ha ht]
  rfl
theorem bt_1024p {k : Nat} (hk : k < 10) : ∃ m, m < 1024 ∧ (1 : Int32) <<< (nI k &&& 31) = nI m := by
  refine bt_of fun t ht _ => ?_
  rw [bt_one k (by omega), BitVec.getLsbD_twoPow]
  have : ¬ k = t := by omega
  simp [this]
theorem x_wset1024 (TX : gTX) (P : gS) (p : Nat) (of : Int32) : ∀ k, k ≤ 10 → ∃ m, m < 1024 ∧ x_wset TX P p of k = nI m := by
  intro k
  induction k with
  | zero => intro _; exact ⟨0, by decide, rfl⟩
  | succ k ih =>
    intro hk
    unfold x_wset
    split
    · exact ih (by omega)
    · split
      · exact ih (by omega)
      · exact bt_or1024 (ih (by omega)) (bt_1024p (by omega))
theorem g_up_n {P : gS} {a b p : Nat} {v : Int32} (h : b ≠ a) : g_up P a p v b = P b := g_set_n _ _ h
theorem g_up_s (P : gS) (a p : Nat) (v : Int32) : g_up P a p v a = upd (P a) p v := g_set_s _ _ _
theorem g_up_sj (P : gS) (a p j : Nat) (v : Int32) : g_up P a p v a j = if j = p then v else P a j := by
  rw [g_up_s]
  rfl
theorem cv_up1 (σ : gS) (w p : Nat) (v : Int32) : cv (g_up σ (w + 1) p v) w = g_up (cv σ w) 1 p v := by
  funext b
  rcases b with _ | _ | _ | _ | _ | _ | _ | _ | b <;> simp [cv, g_up, g_set]
theorem cv_up2 (σ : gS) (w p : Nat) (v : Int32) : cv (g_up σ (w + 2) p v) w = g_up (cv σ w) 2 p v := by
  funext b
  rcases b with _ | _ | _ | _ | _ | _ | _ | _ | b <;> simp [cv, g_up, g_set]
theorem cv_up3 (σ : gS) (w p : Nat) (v : Int32) : cv (g_up σ (w + 3) p v) w = g_up (cv σ w) 3 p v := by
  funext b
  rcases b with _ | _ | _ | _ | _ | _ | _ | _ | b <;> simp [cv, g_up, g_set]
theorem cv_up4 (σ : gS) (w p : Nat) (v : Int32) : cv (g_up σ (w + 4) p v) w = g_up (cv σ w) 4 p v := by
  funext b
  rcases b with _ | _ | _ | _ | _ | _ | _ | _ | b <;> simp [cv, g_up, g_set]
theorem cv_up5 (σ : gS) (w p : Nat) (v : Int32) : cv (g_up σ (w + 5) p v) w = g_up (cv σ w) 5 p v := by
  funext b
  rcases b with _ | _ | _ | _ | _ | _ | _ | _ | b <;> simp [cv, g_up, g_set]
theorem cv_up0 (σ : gS) (w : Nat) {j : Nat} (hj : j < 4) (v : Int32) : cv (g_up σ w (2 + j) v) w = g_up (cv σ w) 0 j v := by
  have h6 : g_up σ w (2 + j) v w 6 = σ w 6 := by
    rw [g_up_sj, if_neg (by omega)]
  funext b i
  rcases b with _ | _ | _ | _ | _ | _ | _ | _ | b
  · show (if i < 5 then g_up σ w (2 + j) v w (2 + i) else 0) = g_up (cv σ w) 0 j v 0 i
    rw [g_up_sj, g_up_sj]
    show _ = if i = j then v else if i < 5 then σ w (2 + i) else 0
    by_cases h : i = j
    · subst h
      rw [if_pos (by omega), if_pos rfl, if_pos rfl]
    · rw [if_neg h, if_neg (show ¬ 2 + i = 2 + j by omega)]
  · simp [cv, g_up, g_set]
  · simp [cv, g_up, g_set]
  · simp [cv, g_up, g_set]
  · simp [cv, g_up, g_set]
  · simp [cv, g_up, g_set]
  · show (if i < (g_up σ w (2 + j) v w 6).toNatClampNeg then g_up σ w (2 + j) v (w + 6) i else 0) = _
    rw [h6, g_up_n (by omega)]
    rfl
  · show (if i < (g_up σ w (2 + j) v w 6).toNatClampNeg then g_up σ w (2 + j) v (w + 7) i else 0) = _
    rw [h6, g_up_n (by omega)]
    rfl
  · simp [cv, g_up, g_set]
theorem isW_lo {w : Nat} (h : isW w) : 45 ≤ w := by rcases h with rfl | rfl | rfl <;> omega
theorem cT_up {TX : gTX} {σ : gS} {t k j : Nat} {v : Int32} (ht : t < 6) (hk : 45 ≤ k) (h : cT TX σ t) : cT TX (g_up σ k j v) t :=
  cT_fr (m := fun q => q = k) (fun a ha => g_set_n _ _ ha) (by omega) (by omega) h
theorem pI_p {TX : gTX} {nT n l : Nat} {P : gS} (h : pI TX nT n l P) : nT ≤ 6 := h.2.2.2.2.1
theorem pI_up2 {TX : gTX} {nT n l : Nat} {P : gS} (h : pI TX nT n l P) (p : Nat) (v : Int32) : pI TX nT n l (g_up P 2 p v) := h
theorem pI_up1 {TX : gTX} {nT n l : Nat} {P : gS} (h : pI TX nT n l P) (p : Nat) (v : Int32) : pI TX nT n l (g_up P 1 p v) := h
theorem pI_up5 {TX : gTX} {nT n l : Nat} {P : gS} (h : pI TX nT n l P) (p : Nat) (v : Int32) : pI TX nT n l (g_up P 5 p v) := h
theorem pI_up3 {TX : gTX} {nT n l : Nat} {P : gS} (h : pI TX nT n l P) (p : Nat) {v : Int32} (hv : ∃ m, m < 1024 ∧ v = nI m) : pI TX nT n l (g_up P 3 p v) := by
  obtain ⟨h1, h2, h3, h4, h5, h6, h7⟩ := h
  refine ⟨h1, h2, h3, h4, h5, fun q hq => ⟨(h6 q hq).1, ?_, (h6 q hq).2.2⟩, h7⟩
  rw [g_up_sj]
  split
  · exact hv
  · exact (h6 q hq).2.1
theorem pI_up4 {TX : gTX} {nT n l : Nat} {P : gS} (h : pI TX nT n l P) (p : Nat) {v : Int32} (hv : ∃ m, m < 1024 ∧ v = nI m) : pI TX nT n l (g_up P 4 p v) := by
  obtain ⟨h1, h2, h3, h4, h5, h6, h7⟩ := h
  refine ⟨h1, h2, h3, h4, h5, fun q hq => ⟨(h6 q hq).1, (h6 q hq).2.1, ?_⟩, h7⟩
  rw [g_up_sj]
  split
  · exact hv
  · exact (h6 q hq).2.2
theorem pI_hour {TX : gTX} {nT n l : Nat} {P : gS} (h : pI TX nT n l P) (v : Int32) : pI TX nT n l (g_up P 0 0 v) := h
theorem pI_corner {TX : gTX} {nT n l : Nat} {P : gS} (h : pI TX nT n l P) {v : Int32} (hv : ∃ k, k < 9 ∧ v = nI k) : pI TX nT n l (g_up P 0 1 v) := by
  obtain ⟨h1, h2, h3, h4, h5, h6, h7, h8, h9⟩ := h
  exact ⟨h1, h2, h3, h4, h5, h6, h7, h8, hv⟩
theorem pI_news {TX : gTX} {nT n l : Nat} {P : gS} (h : pI TX nT n l P) {v : Int32} (hv : ∃ k, k < 1024 ∧ v = nI k) : pI TX nT n l (g_up P 0 2 v) := by
  obtain ⟨h1, h2, h3, h4, h5, h6, h7, h8, h9⟩ := h
  exact ⟨h1, h2, h3, h4, h5, h6, h7, hv, h9⟩
theorem cI_upA {TX : gTX} {nT n l w : Nat} {P P' σ σ' : gS} {k j : Nat} {v : Int32} (hI : cI TX nT n l w P σ) (e : σ' = g_up σ k j v) (hk : 45 ≤ k) (hc : cv (g_up σ k j v) w = P') (hp : pI TX nT n l P') : cI TX nT n l w P' σ' := by
  subst e
  exact ⟨hI.1, hc, hp, fun t ht => cT_up (Nat.lt_of_lt_of_le ht (pI_p hI.2.2.1)) hk (hI.2.2.2 t ht)⟩
theorem cI_up2 {TX : gTX} {nT n l w : Nat} {P σ σ' : gS} {p : Nat} {v : Int32} (hI : cI TX nT n l w P σ) (e : σ' = g_up σ (w + 2) p v) : cI TX nT n l w (g_up P 2 p v) σ' :=
  cI_upA hI e (by have := isW_lo hI.1; omega) (by rw [cv_up2, hI.2.1]) (pI_up2 hI.2.2.1 _ _)
theorem cI_up4 {TX : gTX} {nT n l w : Nat} {P σ σ' : gS} {p : Nat} {v : Int32} (hI : cI TX nT n l w P σ) (e : σ' = g_up σ (w + 4) p v) (hv : ∃ m, m < 1024 ∧ v = nI m) : cI TX nT n l w (g_up P 4 p v) σ' :=
  cI_upA hI e (by have := isW_lo hI.1; omega) (by rw [cv_up4, hI.2.1]) (pI_up4 hI.2.2.1 _ hv)
theorem cI_hour {TX : gTX} {nT n l w : Nat} {P σ σ' : gS} {v : Int32} (hI : cI TX nT n l w P σ) (e : σ' = g_up σ w 2 v) : cI TX nT n l w (g_up P 0 0 v) σ' :=
  cI_upA hI e (isW_lo hI.1) (by rw [show (2 : Nat) = 2 + 0 from rfl, cv_up0 σ w (by decide), hI.2.1]) (pI_hour hI.2.2.1 _)
theorem cI_corner {TX : gTX} {nT n l w : Nat} {P σ σ' : gS} {v : Int32} (hI : cI TX nT n l w P σ) (e : σ' = g_up σ w 3 v) (hv : ∃ k, k < 9 ∧ v = nI k) : cI TX nT n l w (g_up P 0 1 v) σ' :=
  cI_upA hI e (isW_lo hI.1) (by rw [show (3 : Nat) = 2 + 1 from rfl, cv_up0 σ w (by decide), hI.2.1]) (pI_corner hI.2.2.1 hv)
theorem cI_news {TX : gTX} {nT n l w : Nat} {P σ σ' : gS} {v : Int32} (hI : cI TX nT n l w P σ) (e : σ' = g_up σ w 4 v) (hv : ∃ k, k < 1024 ∧ v = nI k) : cI TX nT n l w (g_up P 0 2 v) σ' :=
  cI_upA hI e (isW_lo hI.1) (by rw [show (4 : Nat) = 2 + 2 from rfl, cv_up0 σ w (by decide), hI.2.1]) (pI_news hI.2.2.1 hv)
theorem mW_w {w i : Nat} (hi : i < 9) : mW w (w + i) := Or.inr ⟨by omega, by omega⟩
theorem Fr.upW {w i j : Nat} {v : Int32} {σ σ' : gS} (e : σ' = g_up σ (w + i) j v) (hi : i < 9) : Fr (mW w) σ σ' := Fr.up e (mW_w hi)
