theorem t_sk_cg {f g : Nat → Int32} {e : Nat} (h : ∀ j, j < e → f j = g j) : ∀ k p, t_sk f e k p = t_sk g e k p := by
  intro k
  induction k with
  | zero => intro p; rfl
  | succ k ih =>
    intro p
    unfold t_sk
    by_cases hp : p < e
    · rw [if_pos hp, if_pos hp, h p hp, ih]
    · rw [if_neg hp, if_neg hp]
theorem t_pl_cg {f g : Nat → Int32} {e : Nat} (h : ∀ j, j < e → f j = g j) (p : Nat) : t_pl f e p = t_pl g e p := t_sk_cg h _ p
theorem t_run_cg {f g : Nat → Int32} {e : Nat} (h : ∀ j, j < e → f j = g j) (a b : Int32) : ∀ k p, t_run f e a b k p = t_run g e a b k p := by
  intro k
  induction k with
  | zero => intro p; rfl
  | succ k ih =>
    intro p
    unfold t_run
    by_cases hp : p < e
    · rw [if_pos hp, if_pos hp, h p hp, ih]
    · rw [if_neg hp, if_neg hp]
theorem t_end_cg {f g : Nat → Int32} {e : Nat} (h : ∀ j, j < e → f j = g j) (a b : Int32) (p : Nat) : t_end f e a b p = t_end g e a b p := t_run_cg h a b _ p
theorem t_run_up (f : Nat → Int32) (e : Nat) (a b : Int32) : ∀ k p, t_run f e a b k p ≤ p + k := by
  intro k
  induction k with
  | zero => intro p; exact Nat.le_refl _
  | succ k ih =>
    intro p
    unfold t_run
    have := ih (p + 1)
    split
    · split
      · omega
      · omega
    · omega
theorem t_end_up (f : Nat → Int32) (e : Nat) (a b : Int32) {p : Nat} (hp : p ≤ e) : t_end f e a b p ≤ e := by
  have := t_run_up f e a b (e - p) p
  unfold t_end
  omega
theorem t_val_cg {f g : Nat → Int32} {e i : Nat} (h : ∀ j, j < e → f j = g j) : ∀ n, i + n ≤ e → t_val f i n = t_val g i n := by
  intro n
  induction n with
  | zero => intro _; rfl
  | succ n ih =>
    intro hn
    unfold t_val
    rw [ih (by omega), h (i + n) (by omega)]
theorem t_eq_cg {f g : Nat → Int32} {e : Nat} (h : ∀ j, j < e → f j = g j) : ∀ (l : List Int32) (i : Nat), i + l.length ≤ e → t_eq f i l = t_eq g i l := by
  intro l
  induction l with
  | nil => intro i _; rfl
  | cons a l ih =>
    intro i hi
    simp only [List.length_cons] at hi
    unfold t_eq
    rw [ih (i + 1) (by omega), h i (by omega)]
theorem t_is_cg {f g : Nat → Int32} {e i n : Nat} (h : ∀ j, j < e → f j = g j) (hn : i + n ≤ e) (w : List Int32) : t_is f i n w = t_is g i n w := by
  unfold t_is
  by_cases hw : n = w.length
  · rw [t_eq_cg h w i (by omega)]
  · rw [decide_eq_false hw]
    rfl
theorem t_kw_cg {f g : Nat → Int32} {e i n : Nat} (h : ∀ j, j < e → f j = g j) (hn : i + n ≤ e) : ∀ l, t_kw f i n l = t_kw g i n l := by
  intro l
  induction l with
  | nil => rfl
  | cons a l ih =>
    obtain ⟨w, c⟩ := a
    unfold t_kw
    rw [t_is_cg h hn, ih]
theorem t_run_ge2 (f : Nat → Int32) (e : Nat) (a b : Int32) : ∀ k p, p ≤ t_run f e a b k p := by
  intro k
  induction k with
  | zero => intro p; exact Nat.le_refl _
  | succ k ih =>
    intro p
    unfold t_run
    have := ih (p + 1)
    split
    · split
      · omega
      · omega
    · omega
theorem t_end_ge2 (f : Nat → Int32) (e : Nat) (a b : Int32) (p : Nat) : p ≤ t_end f e a b p := t_run_ge2 f e a b _ p
theorem t_cd_cg {f g : Nat → Int32} {e i : Nat} (h : ∀ j, j < e → f j = g j) (hi : i < e) : t_cd f e i = t_cd g e i := by
  have h1 := t_end_up g e 48 57 (p := i) (by omega)
  have h2 := t_end_up g e 97 122 (p := i) (by omega)
  have h3 := t_end_ge2 g e 48 57 i
  have h4 := t_end_ge2 g e 97 122 i
  unfold t_cd
  rw [h i hi, t_end_cg h, t_end_cg h, t_val_cg h _ (by omega), t_kw_cg h (by omega)]
theorem t_nx_cg {f g : Nat → Int32} {e i : Nat} (h : ∀ j, j < e → f j = g j) (hi : i < e) : t_nx f e i = t_nx g e i := by
  unfold t_nx
  rw [h i hi, t_end_cg h, t_end_cg h]
theorem t_tl_cg {f g : Nat → Int32} {e : Nat} (h : ∀ j, j < e → f j = g j) : ∀ k p, t_tl f e k p = t_tl g e k p := by
  intro k
  induction k with
  | zero => intro p; rfl
  | succ k ih =>
    intro p
    unfold t_tl
    rw [t_pl_cg h]
    by_cases hp : t_pl g e p < e
    · rw [if_pos hp, if_pos hp, t_cd_cg h hp, t_nx_cg h hp, ih]
    · rw [if_neg hp, if_neg hp]
theorem t_L_cg {f g : Nat → Int32} {e : Nat} (h : ∀ j, j < e → f j = g j) (p : Nat) : t_L f e p = t_L g e p := t_tl_cg h _ p
def s_teL (B : gS) : List (Nat × Nat) := t_L (B 1) (B 0 1).toNatClampNeg 0
def s_teU (B : gS) (v : Int32) : gS := g_up (g_up (g_set B 1 (fun _ => 0)) 0 1 0) 0 0 v
noncomputable def s_teR (B : gS) : Int32 := if B 0 0 = 6 then -4 else @ite _ (t_ok (s_teL B)) (Classical.propDecidable _) (B 0 0) (-100 - nI (t_flt (s_teL B)))
noncomputable def s_teB (B : gS) : gS := if B 0 0 = 6 then B else s_teU B (@ite _ (t_ok (s_teL B)) (Classical.propDecidable _) (B 0 0 + 1) (B 0 0))
def s_teX (TX : gTX) (t : Nat) (ℓ : List (Nat × Nat)) (c : Nat → List Nat) : gTX := fun u j => if u = t then c j else TX u j
noncomputable def s_teT (TX : gTX) (B : gS) : gTX := if B 0 0 = 6 then TX else @ite _ (t_ok (s_teL B)) (Classical.propDecidable _) (s_teX TX (B 0 0).toNatClampNeg (s_teL B) (t_cs (s_teL B))) TX
theorem pI_te {TX TX' : gTX} {nT nT' n l : Nat} {P : gS} (h : pI TX nT n l P) (hn : nT ≤ nT') (h6 : nT' ≤ 6) (ht : ∀ t, t < nT' → ∀ j, j < 3 → x_ht (TX' t j) 0 = some 1) : pI TX' nT' n l P := by
  obtain ⟨a1, a2, a3, a4, a5, a6, a7, a8⟩ := h
  exact ⟨a1, a2, a3, by omega, h6, a6, ht, a8⟩
theorem s_teU_n {B : gS} {v : Int32} {a : Nat} (h0 : a ≠ 0) (h1 : a ≠ 1) : s_teU B v a = B a := by
  unfold s_teU
  rw [g_up_n h0, g_up_n h0, g_set_n _ _ h1]
theorem s_teU_1 (B : gS) (v : Int32) : s_teU B v 1 = fun _ => 0 := by
  unfold s_teU
  rw [g_up_n (by decide), g_up_n (by decide), g_set_s]
theorem s_teU_0 (B : gS) (v : Int32) (j : Nat) : s_teU B v 0 j = if j = 0 then v else if j = 1 then 0 else B 0 j := by
  unfold s_teU
  rw [g_up_sj, g_up_sj, g_set_n _ _ (by decide)]
theorem shI_te {B B' : gS} {s : Nat} (h : shI B s) (e2 : B' 2 = B 2) (e3 : B' 3 = B 3) : shI B' s := by
  unfold shI at h ⊢
  rw [e2, e3]
  exact h
theorem bI_te {TX TX' : gTX} {nT nT' n : Nat} {P B : gS} (h : bI TX nT n P B) (hn : nT ≤ nT') (h6 : nT' ≤ 6) (ht : ∀ t, t < nT' → ∀ j, j < 3 → x_ht (TX' t j) 0 = some 1) : bI TX' nT' n P (s_teU B (nI nT')) := by
  obtain ⟨a1, a2, a3, a4, a5, a6, a7⟩ := h
  have e2 : s_teU B (nI nT') 0 2 = B 0 2 := by rw [s_teU_0, if_neg (by decide), if_neg (by decide)]
  have e8 : ∀ a, s_teU B (nI nT') (a + 8) = B (a + 8) := fun a => s_teU_n (by omega) (by omega)
  refine ⟨by rw [s_teU_0, if_pos rfl], ⟨0, by omega, by rw [s_teU_0, if_neg (by decide), if_pos rfl]; rfl⟩, fun j => ⟨0, by omega, by rw [s_teU_1]; rfl⟩, by rw [e2]; exact a4, fun s hs => shI_te (a5 s hs) (s_teU_n (by decide) (by decide)) (s_teU_n (by decide) (by decide)), a6, fun hk => ?_⟩
  obtain ⟨nK, lK, k1, k2, k3, k4⟩ := a7 (by rw [← e2]; exact hk)
  have ee : (fun a => s_teU B (nI nT') (a + 8)) = (fun a => B (a + 8)) := funext e8
  rw [ee]
  exact ⟨nK, lK, pI_te k1 hn h6 ht, k2, k3, k4⟩
theorem mB_te {s s' : gS} {t : Nat} (h : t_J t s s') (h6 : s' 0 6 = 0) : mB s' = s_teU (mB s) (s' 0 9) := by
  have z11 : s' 0 11 = s 0 11 := h.2.1 11 (by omega) (by decide) (by decide)
  have ao : ∀ k, k ≠ 0 → k ≠ 6 → k ≠ 7 → k ≠ 15 → s' k = s k := h.1
  funext a j
  rcases a with _ | _ | _ | _ | _ | _ | _ | _ | a
  · rw [s_teU_0]
    show (if j = 0 then s' 0 9 else if j = 1 then s' 0 6 else if j = 2 then s' 0 11 else 0) = if j = 0 then s' 0 9 else if j = 1 then 0 else (if j = 0 then s 0 9 else if j = 1 then s 0 6 else if j = 2 then s 0 11 else 0)
    rw [h6, z11]
    by_cases h0 : j = 0
    · rw [if_pos h0, if_pos h0]
    · by_cases h1 : j = 1
      · rw [if_neg h0, if_pos h1, if_neg h0, if_pos h1]
      · rw [if_neg h0, if_neg h1, if_neg h0, if_neg h1, if_neg h0, if_neg h1]
  · rw [s_teU_1]
    show (if j < (s' 0 6).toNatClampNeg then s' 5 j else 0) = 0
    rw [h6]
    exact if_neg (Nat.not_lt_zero j)
  · rw [s_teU_n (by decide) (by decide)]
    show (if j < 4 then s' 10 j else 0) = if j < 4 then s 10 j else 0
    rw [ao _ (by decide) (by decide) (by decide) (by decide)]
  · rw [s_teU_n (by decide) (by decide)]
    show (if j < 4 then s' 11 j else 0) = if j < 4 then s 11 j else 0
    rw [ao _ (by decide) (by decide) (by decide) (by decide)]
  · rw [s_teU_n (by decide) (by decide)]
    show (if j < 40 then s' 12 (40 * 0 + j) else 0) = if j < 40 then s 12 (40 * 0 + j) else 0
    rw [ao _ (by decide) (by decide) (by decide) (by decide)]
  · rw [s_teU_n (by decide) (by decide)]
    show (if j < 40 then s' 12 (40 * 1 + j) else 0) = if j < 40 then s 12 (40 * 1 + j) else 0
    rw [ao _ (by decide) (by decide) (by decide) (by decide)]
  · rw [s_teU_n (by decide) (by decide)]
    show (if j < 40 then s' 12 (40 * 2 + j) else 0) = if j < 40 then s 12 (40 * 2 + j) else 0
    rw [ao _ (by decide) (by decide) (by decide) (by decide)]
  · rw [s_teU_n (by decide) (by decide)]
    show (if j < 40 then s' 12 (40 * 3 + j) else 0) = if j < 40 then s 12 (40 * 3 + j) else 0
    rw [ao _ (by decide) (by decide) (by decide) (by decide)]
  · rw [s_teU_n (by omega) (by omega)]
    show (if s' 0 11 = 0 then fun _ => 0 else kv s' a) j = (if s 0 11 = 0 then fun _ => 0 else kv s a) j
    have ek : kv s' a = kv s a := by
      unfold kv
      rw [ao 8 (by decide) (by decide) (by decide) (by decide), ao 9 (by decide) (by decide) (by decide) (by decide), ao 1 (by decide) (by decide) (by decide) (by decide), ao 2 (by decide) (by decide) (by decide) (by decide)]
    rw [z11, ek]
theorem x_end_cg {TX TX' : gTX} {t : Nat} (h : TX t = TX' t) (j : Nat) : x_end TX t j = x_end TX' t j := by
  rcases j with _ | _ | j
  · show (TX t 0).length = (TX' t 0).length
    rw [h]
  · show (TX t 0).length + (TX t 1).length = (TX' t 0).length + (TX' t 1).length
    rw [h]
  · show (TX t 0).length + (TX t 1).length + (TX t 2).length = (TX' t 0).length + (TX' t 1).length + (TX' t 2).length
    rw [h]
theorem x_beg_cg {TX TX' : gTX} {t : Nat} (h : TX t = TX' t) (j : Nat) : x_beg TX t j = x_beg TX' t j := by
  cases j with
  | zero => rfl
  | succ j => exact x_end_cg h j
theorem mT_cg {TX TX' : gTX} {t : Nat} {τ : gS} (h : TX t = TX' t) (hT : mT TX τ t) : mT TX' τ t := by
  obtain ⟨a, b, c⟩ := hT
  refine ⟨fun j hj => (a j hj).trans (by rw [x_beg_cg h]), by rw [← x_end_cg h]; exact b, fun i x hx => c i x (by rw [h]; exact hx)⟩
theorem mT_J {TX : gTX} {t u : Nat} {s s' : gS} (h : t_J t s s') (hu : u < t) (hT : mT TX s u) : mT TX s' u := by
  obtain ⟨a, b, c⟩ := hT
  refine ⟨fun j hj => (h.2.2.2 _ (by omega)).trans (a j hj), b, fun i x hx => ?_⟩
  have hl : i < (TX u 0 ++ (TX u 1 ++ TX u 2)).length := (List.getElem?_eq_some_iff.mp hx).1
  simp only [List.length_append] at hl
  have b' : (TX u 0).length + (TX u 1).length + (TX u 2).length ≤ 160 := b
  exact (h.2.2.1 _ (by omega)).trans (c i x hx)
