theorem g_addN {x a b : Int32} {m n : Nat} (h : x = a + b) (ha : a = nI m) (hb : b = nI n) : x = nI (m + n) := by rw [h, ha, hb, nI_add]
theorem g_cn {x : Int32} {a b : Nat} (h : x = nI a) (e : a = b) : x = nI b := by rw [h, e]
theorem g_mulN {x a b : Int32} {m n : Nat} (h : x = a * b) (ha : a = nI m) (hb : b = nI n) : x = nI (m * n) := by rw [h, ha, hb, pk_mul]
theorem g_subN {x a b : Int32} {m n : Nat} (h : x = a - b) (ha : a = nI m) (hb : b = nI n) (hl : n ≤ m) : x = nI (m - n) := by rw [h, ha, hb, pk_sub hl]
theorem g_ltN {x y : Int32} {a b : Nat} (hx : x = nI a) (hy : y = nI b) (ha : a < 2147483648) (hb : b < 2147483648) : x < y ↔ a < b := by rw [hx, hy]; exact nI_ltI ha hb
theorem g_eqN {x y : Int32} {a b : Nat} (hx : x = nI a) (hy : y = nI b) (ha : a < 2147483648) (hb : b < 2147483648) : x = y ↔ a = b := by rw [hx, hy]; exact nI_eq ha hb
theorem g_ti {x : Int32} {k : Int} (y : Int32) (hy : y.toInt = k) (h : ¬ x = y) : x.toInt ≠ k := fun e => h (Int32.toInt_inj.mp (e.trans hy.symm))
theorem g_sw2 {x : Int32} (h0 : ¬ x = 0) (h1 : ¬ x = 1) : x.toInt < 0 ∨ 1 < x.toInt := by
  have e0 := g_ti (k := 0) 0 (by decide) h0
  have e1 := g_ti (k := 1) 1 (by decide) h1
  omega
theorem g_sw3 {x : Int32} (h0 : ¬ x = 0) (h1 : ¬ x = 1) (h2 : ¬ x = 2) : x.toInt < 0 ∨ 2 < x.toInt := by
  have e0 := g_ti (k := 0) 0 (by decide) h0
  have e1 := g_ti (k := 1) 1 (by decide) h1
  have e2 := g_ti (k := 2) 2 (by decide) h2
  omega
theorem g_sw4 {x : Int32} (h0 : ¬ x = 0) (h1 : ¬ x = 1) (h2 : ¬ x = 2) (h3 : ¬ x = 3) : x.toInt < 0 ∨ 3 < x.toInt := by
  have e0 := g_ti (k := 0) 0 (by decide) h0
  have e1 := g_ti (k := 1) 1 (by decide) h1
  have e2 := g_ti (k := 2) 2 (by decide) h2
  have e3 := g_ti (k := 3) 3 (by decide) h3
  omega
theorem g_sw5 {x : Int32} (h0 : ¬ x = 0) (h1 : ¬ x = 1) (h2 : ¬ x = 2) (h3 : ¬ x = 3) (h4 : ¬ x = 4) : x.toInt < 0 ∨ 4 < x.toInt := by
  have e0 := g_ti (k := 0) 0 (by decide) h0
  have e1 := g_ti (k := 1) 1 (by decide) h1
  have e2 := g_ti (k := 2) 2 (by decide) h2
  have e3 := g_ti (k := 3) 3 (by decide) h3
  have e4 := g_ti (k := 4) 4 (by decide) h4
  omega
theorem g_sw6 {x : Int32} (h0 : ¬ x = 0) (h1 : ¬ x = 1) (h2 : ¬ x = 2) (h3 : ¬ x = 3) (h4 : ¬ x = 4) (h5 : ¬ x = 5) : x.toInt < 0 ∨ 5 < x.toInt := by
  have e0 := g_ti (k := 0) 0 (by decide) h0
  have e1 := g_ti (k := 1) 1 (by decide) h1
  have e2 := g_ti (k := 2) 2 (by decide) h2
  have e3 := g_ti (k := 3) 3 (by decide) h3
  have e4 := g_ti (k := 4) 4 (by decide) h4
  have e5 := g_ti (k := 5) 5 (by decide) h5
  omega
theorem g_sw7 {x : Int32} (h0 : ¬ x = 0) (h1 : ¬ x = 1) (h2 : ¬ x = 2) (h3 : ¬ x = 3) (h4 : ¬ x = 4) (h5 : ¬ x = 5) (h6 : ¬ x = 6) : x.toInt < 0 ∨ 6 < x.toInt := by
  have e0 := g_ti (k := 0) 0 (by decide) h0
  have e1 := g_ti (k := 1) 1 (by decide) h1
  have e2 := g_ti (k := 2) 2 (by decide) h2
  have e3 := g_ti (k := 3) 3 (by decide) h3
  have e4 := g_ti (k := 4) 4 (by decide) h4
  have e5 := g_ti (k := 5) 5 (by decide) h5
  have e6 := g_ti (k := 6) 6 (by decide) h6
  omega
theorem g_sw36 {x : Int32} (h0 : ¬ x = 0) (h1 : ¬ x = 1) (h2 : ¬ x = 2) (h3 : ¬ x = 3) (h4 : ¬ x = 4) (h5 : ¬ x = 5) (h6 : ¬ x = 6) (h7 : ¬ x = 7) (h8 : ¬ x = 8) (h9 : ¬ x = 9) (h10 : ¬ x = 10) (h11 : ¬ x = 11) (h12 : ¬ x = 12) (h13 : ¬ x = 13) (h14 : ¬ x = 14) (h15 : ¬ x = 15) (h16 : ¬ x = 16) (h17 : ¬ x = 17) (h18 : ¬ x = 18) (h19 : ¬ x = 19) (h20 : ¬ x = 20) (h21 : ¬ x = 21) (h22 : ¬ x = 22) (h23 : ¬ x = 23) (h24 : ¬ x = 24) (h25 : ¬ x = 25) (h26 : ¬ x = 26) (h27 : ¬ x = 27) (h28 : ¬ x = 28) (h29 : ¬ x = 29) (h30 : ¬ x = 30) (h31 : ¬ x = 31) (h32 : ¬ x = 32) (h33 : ¬ x = 33) (h34 : ¬ x = 34) (h35 : ¬ x = 35) : x.toInt < 0 ∨ 35 < x.toInt := by
  have e0 := g_ti (k := 0) 0 (by decide) h0
  have e1 := g_ti (k := 1) 1 (by decide) h1
  have e2 := g_ti (k := 2) 2 (by decide) h2
  have e3 := g_ti (k := 3) 3 (by decide) h3
  have e4 := g_ti (k := 4) 4 (by decide) h4
  have e5 := g_ti (k := 5) 5 (by decide) h5
  have e6 := g_ti (k := 6) 6 (by decide) h6
  have e7 := g_ti (k := 7) 7 (by decide) h7
  have e8 := g_ti (k := 8) 8 (by decide) h8
  have e9 := g_ti (k := 9) 9 (by decide) h9
  have e10 := g_ti (k := 10) 10 (by decide) h10
  have e11 := g_ti (k := 11) 11 (by decide) h11
  have e12 := g_ti (k := 12) 12 (by decide) h12
  have e13 := g_ti (k := 13) 13 (by decide) h13
  have e14 := g_ti (k := 14) 14 (by decide) h14
  have e15 := g_ti (k := 15) 15 (by decide) h15
  have e16 := g_ti (k := 16) 16 (by decide) h16
  have e17 := g_ti (k := 17) 17 (by decide) h17
  have e18 := g_ti (k := 18) 18 (by decide) h18
  have e19 := g_ti (k := 19) 19 (by decide) h19
  have e20 := g_ti (k := 20) 20 (by decide) h20
  have e21 := g_ti (k := 21) 21 (by decide) h21
  have e22 := g_ti (k := 22) 22 (by decide) h22
  have e23 := g_ti (k := 23) 23 (by decide) h23
  have e24 := g_ti (k := 24) 24 (by decide) h24
  have e25 := g_ti (k := 25) 25 (by decide) h25
  have e26 := g_ti (k := 26) 26 (by decide) h26
  have e27 := g_ti (k := 27) 27 (by decide) h27
  have e28 := g_ti (k := 28) 28 (by decide) h28
  have e29 := g_ti (k := 29) 29 (by decide) h29
  have e30 := g_ti (k := 30) 30 (by decide) h30
  have e31 := g_ti (k := 31) 31 (by decide) h31
  have e32 := g_ti (k := 32) 32 (by decide) h32
  have e33 := g_ti (k := 33) 33 (by decide) h33
  have e34 := g_ti (k := 34) 34 (by decide) h34
  have e35 := g_ti (k := 35) 35 (by decide) h35
  omega
theorem g_nb {v : Int32} (h : v = 0 ∨ v = 1) : narrow .boolean (.int v) = .int v := by rcases h with rfl | rfl <;> rfl
theorem g_fb {v : Int32} (h : v = 0 ∨ v = 1) : narrow .boolean (.int v) = .int v ∧ fits .boolean (.int v) = true := by rcases h with rfl | rfl <;> exact ⟨rfl, rfl⟩
def x_in (v a b : Int32) : Int32 := if v < a then 0 else if b < v then 0 else 1
theorem x_in01 (v a b : Int32) : x_in v a b = 0 ∨ x_in v a b = 1 := by
  unfold x_in
  split
  · exact Or.inl rfl
  · split
    · exact Or.inl rfl
    · exact Or.inr rfl
theorem x_inT {v a b : Int32} : x_in v a b = 1 ↔ ¬ v < a ∧ ¬ b < v := by
  unfold x_in
  by_cases h : v < a
  · simp [h]
  · by_cases h2 : b < v <;> simp [h, h2]
theorem x_inF {v a b : Int32} : x_in v a b = 0 ↔ v < a ∨ b < v := by
  unfold x_in
  by_cases h : v < a
  · simp [h]
  · by_cases h2 : b < v <;> simp [h, h2]
theorem x_inN {v a b : Int32} : ¬ x_in v a b = 0 ↔ ¬ v < a ∧ ¬ b < v := by
  rw [x_inF]
  constructor
  · exact fun h => ⟨fun q => h (Or.inl q), fun q => h (Or.inr q)⟩
  · rintro ⟨h1, h2⟩ (h | h)
    · exact h1 h
    · exact h2 h
def x_bit (s p : Int32) : Int32 := (s >>> (p &&& 31)) &&& 1
def x_isIn (s p : Int32) : Int32 := if x_bit s p = 0 then 0 else 1
def x_first (s : Int32) : Nat → Nat → Int32
  | 0, _ => -1
  | f + 1, k => if x_bit s (nI k) = 0 then x_first s f (k + 1) else nI k
theorem g_neT {x T y : Int32} (h : x = T) (c : ¬ x = y) : ¬ T = y := by rw [← h]; exact c
