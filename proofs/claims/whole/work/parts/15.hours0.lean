theorem G_gz {S : gSd} {E : gE} {Q : State → Prop} {pc : Nat} {L : List (Option Value)} {st : List Value} {σ : gS} (k : gz S σ → GW S E Q pc L st σ) : GW S E Q pc L st σ := fun H locs ls hP hS hl hz => k hz H locs ls hP hS hl hz
def gKA (own : String) (idx : Nat) : Prop := Cond.methodLink own idx arraycopyName ∈ gTB
theorem kA1 : Cond.native arraycopyName ∈ gTB := gTB_of w_638 rfl
theorem kA2 : Cond.static arraycopyName ∈ gTB := w_637
theorem kA3 : Cond.initialized "java/lang/System" ∈ gTB := w_20
theorem gz_set {S : gSd} {σ : gS} {k : Nat} {f : Nat → Int32} (h : gz S σ) (hf : ∀ j, S.2.1 k ≤ j → f j = 0) : gz S (g_set σ k f) := by
  intro a b hb
  unfold g_set
  split
  · rename_i e
    subst e
    exact hf b hb
  · exact h a b hb
theorem G_copy {S : gSd} {E : gE} {own : String} {cc : ByteArray} {nL : Nat} {ret : Option FieldType} {d : Nat} {Q : State → Prop} {pc : Nat} {L : List (Option Value)} {st : List Value} {σ : gS} (C : gCx S E own cc nL ret d) (pc' : Nat) {idx k0 k1 n0 n1 : Nat} (K : gKA own idx) (hd1 : 1 ≤ d) (hk0 : k0 < S.1) (hk1 : k1 < S.1)
    (he0 : S.2.2.1 (e_cA E) (e_ad E) σ k0 = .inl (e_cA E 0, n0, .inl (σ k0))) (he1 : ∀ σ, S.2.2.1 (e_cA E) (e_ad E) σ k1 = .inl (e_cA E 0, n1, .inl (σ k1))) {x y z : Int32} (a b m : Nat) (hx : x = nI a) (hy : y = nI b) (hz : z = nI m) (h0 : a + m ≤ n0) (h1 : b + m ≤ n1) (hn0 : n0 < 2 ^ 31) (hn1 : n1 < 2 ^ 31) (hnz : n1 ≤ S.2.1 k1)
    (hW : (st.map fun v => v.category).sum ≤ 8) (hL : L.length = nL) (hd : decode cc pc = .ok (.invokestatic idx, 3)) (hp : pc + 3 = pc') (kk : ∀ σ', σ' = g_set σ k1 (va_cpy (σ k0) (σ k1) a b m) → GW S E Q pc' L st σ') : GW S E Q pc L (.int z :: .int y :: .ref (e_ad E k1) :: .int x :: .ref (e_ad E k0) :: st) σ := by
  subst hp hx hy hz
  intro H locs ls hP hS hl hgz
  have hts := C.2.2.2.2.1
  have hR1 := C.2.2.2.2.2.2.2.2.2.2.2.1
  have hR2 := C.2.2.2.2.2.2.2.2.2.2.2.2.1
  refine va_copyi (ty := .int) C.1 C.2.1 (C.2.2.1.trans (hL.symm.trans hl.1.symm)) C.2.2.2.1 (hts _ K) (hts _ kA1) (hts _ kA2) (hts _ kA3) C.2.2.2.2.2.2.2.1 hP (gD_of σ C.2.2.2.2.2.2.2.2.1) hS k0 k1 0 0 (by rw [gPic_at hk0, he0]) (by rw [gPic_at hk1, he1]) rfl rfl rfl (nI_pos (by omega)) (nI_pos (by omega)) (nI_pos (by omega)) (by rw [nI_clamp (by omega), nI_clamp (by omega)]; exact h0) (by rw [nI_clamp (by omega), nI_clamp (by omega)]; exact h1) (fun _ _ => rfl) (Nat.le_trans hd1 hR1) ?_ hd (fun H1 locs1 hP1 _ hS1 => ?_)
  · have : nativeFrameWords "java/lang/System" "arraycopy" 5 ≤ 20 := by decide +kernel
    omega
  · rw [nI_clamp (by omega), nI_clamp (by omega), nI_clamp (by omega), gPic_set (σ' := g_set σ k1 (va_cpy (σ k0) (σ k1) a b m)) C.2.2.2.2.2.2.2.2.2.2.1 (by rw [he1, g_set_s]) (fun q hq => g_set_n _ _ hq)] at hP1
    refine kk _ rfl H1 locs1 ls hP1 hS1 hl (gz_set hgz (fun j hj => ?_))
    unfold va_cpy
    rw [if_neg (by omega)]
    exact hgz k1 j hj
theorem wset_bt (TX : gTX) (P : gS) (p : Nat) (of : Int32) : ∀ k, k ≤ 10 → ∀ t, t < 32 → (x_wset TX P p of k).toBitVec.getLsbD t = (decide (t < k) && of.toBitVec.getLsbD t && !decide (x_wishes TX P p t = 0)) := by
  intro k
  induction k with
  | zero => intro _ t _; simp [x_wset]
  | succ k ih =>
    intro hk t ht
    have i := ih (by omega) t ht
    unfold x_wset
    by_cases h1 : x_bit of (nI k) = 0
    · rw [if_pos h1, i]
      have h2 := (bt_x of k (by omega)).mp h1
      by_cases e : t = k
      · subst e
        simp [h2]
      · have : decide (t < k + 1) = decide (t < k) := decide_eq_decide.mpr (by omega)
        rw [this]
    · rw [if_neg h1]
      have h2 : of.toBitVec.getLsbD k = true := by
        have := fun q => h1 ((bt_x of k (by omega)).mpr q)
        cases e : of.toBitVec.getLsbD k
        · exact absurd e this
        · rfl
      by_cases h3 : x_wishes TX P p k = 0
      · rw [if_pos h3, i]
        by_cases e : t = k
        · subst e
          simp [h3]
        · have : decide (t < k + 1) = decide (t < k) := decide_eq_decide.mpr (by omega)
          rw [this]
      · rw [if_neg h3, bt_orp _ (by omega), i]
        by_cases e : t = k
        · subst e
          simp [h2, h3]
        · have : decide (t < k + 1) = decide (t < k) := decide_eq_decide.mpr (by omega)
          rw [this]
          simp [e]
theorem mays_bt (TX : gTX) (P : gS) (c of : Int32) : ∀ k, k ≤ 10 → ∀ t, t < 32 → (x_maysN TX P c of k).toBitVec.getLsbD t = (decide (t < k) && of.toBitVec.getLsbD t && !decide (x_may TX P c t = 0)) := by
  intro k
  induction k with
  | zero => intro _ t _; simp [x_maysN]
  | succ k ih =>
    intro hk t ht
    have i := ih (by omega) t ht
    unfold x_maysN
    by_cases h1 : x_bit of (nI k) = 0
    · rw [if_pos h1, i]
      have h2 := (bt_x of k (by omega)).mp h1
      by_cases e : t = k
      · subst e
        simp [h2]
      · have : decide (t < k + 1) = decide (t < k) := decide_eq_decide.mpr (by omega)
        rw [this]
    · rw [if_neg h1]
      have h2 : of.toBitVec.getLsbD k = true := by
        have := fun q => h1 ((bt_x of k (by omega)).mpr q)
        cases e : of.toBitVec.getLsbD k
        · exact absurd e this
        · rfl
      by_cases h3 : x_may TX P c k = 0
      · rw [if_pos h3, i]
        by_cases e : t = k
        · subst e
          simp [h3]
        · have : decide (t < k + 1) = decide (t < k) := decide_eq_decide.mpr (by omega)
          rw [this]
      · rw [if_neg h3, bt_orp _ (by omega), i]
        by_cases e : t = k
        · subst e
          simp [h2, h3]
        · have : decide (t < k + 1) = decide (t < k) := decide_eq_decide.mpr (by omega)
          rw [this]
          simp [e]
def x_mayL (TX : gTX) (P : gS) (c of : Int32) : Nat → Int32
  | 0 => of
  | k + 1 => if P 2 k = c then (if x_mayL TX P c of k = 0 then x_mayL TX P c of k else if x_lis P k = 0 then x_mayL TX P c of k else x_mayL TX P c of k &&& (x_wset TX P k (x_mayL TX P c of k) 10 ^^^ (-1))) else x_mayL TX P c of k
theorem mayL1024 (TX : gTX) (P : gS) (c : Int32) {of : Int32} (h : ∃ m, m < 1024 ∧ of = nI m) : ∀ k, ∃ m, m < 1024 ∧ x_mayL TX P c of k = nI m := by
  intro k
  induction k with
  | zero => exact h
  | succ k ih =>
    unfold x_mayL
    split
    · split
      · exact ih
      · split
        · exact ih
        · exact bt_and1024 _ ih
    · exact ih
theorem mayL_bt (TX : gTX) (P : gS) (c of : Int32) : ∀ k, ∀ t, t < 10 → (x_mayL TX P c of k).toBitVec.getLsbD t = (of.toBitVec.getLsbD t && !decide (x_mayN TX P c t k = 0)) := by
  intro k
  induction k with
  | zero => intro t _; simp [x_mayL, x_mayN]
  | succ k ih =>
    intro t ht
    have i := ih t ht
    unfold x_mayL x_mayN
    by_cases h1 : P 2 k = c
    · rw [if_pos h1, if_pos h1]
      by_cases h2 : x_mayL TX P c of k = 0
      · rw [if_pos h2, i]
        have z : (of.toBitVec.getLsbD t && !decide (x_mayN TX P c t k = 0)) = false := by
          rw [← i, h2]
          simp
        by_cases h3 : x_lis P k = 0
        · rw [if_pos h3]
        · rw [if_neg h3]
          by_cases h4 : x_wishes TX P k t = 0
          · rw [if_pos h4]
          · rw [if_neg h4, z]
            simp
      · rw [if_neg h2]
        by_cases h3 : x_lis P k = 0
        · rw [if_pos h3, if_pos h3, i]
        · rw [if_neg h3, if_neg h3, bt_andn _ _ (by omega), wset_bt TX P k _ 10 (by omega) t (by omega), i]
          by_cases h4 : x_wishes TX P k t = 0
          · rw [if_pos h4]
            simp [h4]
          · rw [if_neg h4]
            have : decide (t < 10) = true := by simp [ht]
            simp only [h4, this]
            cases of.toBitVec.getLsbD t <;> cases decide (x_mayN TX P c t k = 0) <;> rfl
    · rw [if_neg h1, if_neg h1, i]
theorem mayL_mays {TX : gTX} {P : gS} {c of : Int32} {n : Nat} (h : ∃ m, m < 1024 ∧ of = nI m) (hn : x_n P = n) : x_mayL TX P c of n = x_mays TX P c of := by
  apply bt_ext
  intro t ht
  unfold x_mays
  rw [mays_bt TX P c of 10 (by omega) t ht]
  by_cases h10 : t < 10
  · rw [mayL_bt TX P c of n t h10]
    unfold x_may
    rw [hn]
    simp [h10]
  · obtain ⟨m, hm, e⟩ := mayL1024 TX P c h n
    rw [e, bt_lt hm (by omega)]
    simp [h10]
theorem x_mays1024 (TX : gTX) (P : gS) (c of : Int32) : ∃ m, m < 1024 ∧ x_mays TX P c of = nI m := by
  refine bt_of fun t ht h32 => ?_
  unfold x_mays
  rw [mays_bt TX P c of 10 (by omega) t h32]
  simp [show ¬ t < 10 by omega]
theorem x_first_r : ∀ (f k : Nat) (v : Int32), x_first v f k = -1 ∨ ∃ t, k ≤ t ∧ t < k + f ∧ x_first v f k = nI t := by
  intro f
  induction f with
  | zero => intro k v; exact Or.inl rfl
  | succ f ih =>
    intro k v
    unfold x_first
    split
    · rcases ih (k + 1) v with h | ⟨t, h1, h2, h3⟩
      · exact Or.inl h
      · exact Or.inr ⟨t, by omega, by omega, h3⟩
    · exact Or.inr ⟨k, by omega, by omega, rfl⟩
theorem x_crd_r (TX : gTX) (P : gS) : x_crd TX P = -1 ∨ ∃ t, t < 10 ∧ x_crd TX P = nI t := by
  rcases x_first_r 10 0 (x_mays TX P (P 0 1) (P 0 2)) with h | ⟨t, _, h2, h3⟩
  · exact Or.inl h
  · exact Or.inr ⟨t, by omega, h3⟩
theorem x_cryN_a (P : gS) (b : Int32) {a : Nat} (h0 : a ≠ 0) (h4 : a ≠ 4) : ∀ k, x_cryN P b k a = P a := by
  intro k
  induction k with
  | zero => exact g_up_n h0
  | succ k ih =>
    unfold x_cryN
    split
    · split
      · exact ih
      · rw [g_up_n h4]
        exact ih
    · exact ih
theorem x_cryN_0 (P : gS) (b : Int32) {j : Nat} (h : j ≠ 2) : ∀ k, x_cryN P b k 0 j = P 0 j := by
  intro k
  induction k with
  | zero => show g_up P 0 2 _ 0 j = P 0 j; rw [g_up_sj, if_neg h]
  | succ k ih =>
    unfold x_cryN
    split
    · split
      · exact ih
      · rw [g_up_n (by decide)]
        exact ih
    · exact ih
theorem x_cryN_lis (P : gS) (b : Int32) (k p : Nat) : x_lis (x_cryN P b k) p = x_lis P p := by
  unfold x_lis
  rw [x_cryN_a P b (by decide) (by decide), x_cryN_a P b (by decide) (by decide), x_cryN_a P b (by decide) (by decide), x_cryN_0 P b (by decide)]
def x_one (x : Int32) (n : Nat) : Int32 := if x < 0 then 0 else if x < nI n then 1 else 0
theorem x_one01 (x : Int32) (n : Nat) : x_one x n = 0 ∨ x_one x n = 1 := by
  unfold x_one
  split
  · exact Or.inl rfl
  · split
    · exact Or.inr rfl
    · exact Or.inl rfl
theorem x_oneT {x : Int32} {n : Nat} (h6 : n ≤ 6) (h : ¬ x_one x n = 0) : ∃ p, p < n ∧ x = nI p := by
  unfold x_one at h
  split at h
  · exact absurd rfl h
  · rename_i h1
    split at h
    · rename_i h2
      obtain ⟨j, hj, rfl⟩ := nI_of h1
      exact ⟨j, (nI_ltI hj (by omega)).mp h2, rfl⟩
    · exact absurd rfl h
theorem x_oneN {p n : Nat} (h6 : n ≤ 6) (h : p < n) : x_one (nI p) n = 1 := by
  unfold x_one
  rw [if_neg (nI_pos (by omega)), if_pos ((nI_ltI (by omega) (by omega)).mpr h)]
def x_kt (P : gS) : Nat → Int32
  | 0 => 0
  | k + 1 => x_kt P k + x_cnt (P 4 k)
