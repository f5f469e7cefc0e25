theorem t_k3 {c j : Nat} {v w : Int32} (hok : t_okc c) (h : t_mt c = 3) (hV : t_V c v) (hv : v = w) (hw : w = nI j) (hj : j < 3) : c = 20 + j := by
  have h1 := t_mi_3 h
  unfold t_okc at hok
  have h2 : c < 23 := by omega
  have h3 := hV.2.2 h1.1 h2
  have h4 := (nI_eq (by omega) (by omega)).mp (h3.symm.trans (hv.trans hw))
  omega
theorem t_k3n {c j : Nat} (h : ¬ t_mt c = 3) (hj : j < 3) : ¬ c = 20 + j := by
  intro z
  have : j = 0 ∨ j = 1 ∨ j = 2 := by omega
  rcases this with rfl | rfl | rfl
  all_goals exact h (by rw [z]; decide)
theorem t_k3v {c j : Nat} {v w : Int32} (hV : t_V c v) (h : ¬ v = w) (hw : w = nI j) (hj : j < 3) : ¬ c = 20 + j := by
  intro z
  have h3 := hV.2.2 (by omega) (by omega)
  rw [z, show 20 + j - 20 = j by omega] at h3
  exact h (h3.trans hw.symm)
noncomputable def t_part (j : Nat) : List (Nat × Nat) → Bool × List (Nat × Nat) × List Nat
  | [] => (false, [], [])
  | (c, p) :: T => if c = 20 + j then t_au T [] [] true true else (false, (c, p) :: T, [])
theorem t_part_c (j c p : Nat) (T : List (Nat × Nat)) : t_part j ((c, p) :: T) = if c = 20 + j then t_au T [] [] true true else (false, (c, p) :: T, []) := rfl
def t_hc : List (Nat × Nat) → Nat
  | [] => 1
  | (c, _) :: _ => c
def t_hp : List (Nat × Nat) → Nat
  | [] => 0
  | (_, p) :: _ => p
noncomputable def t_r1 (ℓ : List (Nat × Nat)) : Bool × List (Nat × Nat) × List Nat := t_part 0 ℓ
noncomputable def t_r2 (ℓ : List (Nat × Nat)) : Bool × List (Nat × Nat) × List Nat := t_part 1 (t_r1 ℓ).2.1
noncomputable def t_r3 (ℓ : List (Nat × Nat)) : Bool × List (Nat × Nat) × List Nat := t_part 2 (t_r2 ℓ).2.1
def t_ok (ℓ : List (Nat × Nat)) : Prop := (t_r1 ℓ).1 = true ∧ (t_r2 ℓ).1 = true ∧ (t_r3 ℓ).1 = true ∧ t_hc (t_r3 ℓ).2.1 = 0
noncomputable def t_flt (ℓ : List (Nat × Nat)) : Nat := if (t_r1 ℓ).1 = false then t_hp (t_r1 ℓ).2.1 else if (t_r2 ℓ).1 = false then t_hp (t_r2 ℓ).2.1 else t_hp (t_r3 ℓ).2.1
noncomputable def t_cs (ℓ : List (Nat × Nat)) (j : Nat) : List Nat := if j = 0 then (t_r1 ℓ).2.2 else if j = 1 then (t_r2 ℓ).2.2 else (t_r3 ℓ).2.2
theorem t_part_ok {f : Nat → Int32} {e p j : Nat} {X : Bool × List (Nat × Nat) × List Nat} (hp : p ≤ e) (hc : t_c f e p = 20 + j) (h : t_au (t_L f e (t_n f e p)) [] [] true true = X) : t_part j (t_L f e p) = X := by
  obtain ⟨T, h1, h2⟩ := t_Lx (f := f) hp
  rw [h1, t_part_c, if_pos hc, (h2 (by omega)).1]
  exact h
theorem t_part_no {f : Nat → Int32} {e p j : Nat} (hp : p ≤ e) (hc : ¬ t_c f e p = 20 + j) : t_part j (t_L f e p) = (false, t_L f e p, []) := by
  obtain ⟨T, h1, h2⟩ := t_Lx (f := f) hp
  rw [h1, t_part_c, if_neg hc]
theorem t_hc_L {f : Nat → Int32} {e p : Nat} (hp : p ≤ e) : t_hc (t_L f e p) = t_c f e p := by
  obtain ⟨T, h1, h2⟩ := t_Lx (f := f) hp
  rw [h1]
  rfl
theorem t_hp_L {f : Nat → Int32} {e p : Nat} (hp : p ≤ e) : t_hp (t_L f e p) = t_pl f e p := by
  obtain ⟨T, h1, h2⟩ := t_Lx (f := f) hp
  rw [h1]
  rfl
theorem t_part_suf (j : Nat) (ℓ : List (Nat × Nat)) : ∀ q, q ∈ (t_part j ℓ).2.1 → q ∈ ℓ := by
  intro q hq
  cases ℓ with
  | nil => exact hq
  | cons a T =>
    obtain ⟨c, p⟩ := a
    rw [t_part_c] at hq
    by_cases h : c = 20 + j
    · rw [if_pos h] at hq
      exact List.mem_cons_of_mem _ (t_au_suf T [] [] true true _ _ _ rfl q hq)
    · rw [if_neg h] at hq
      exact hq
theorem t_part_ht {j : Nat} {ℓ : List (Nat × Nat)} (hv : ∀ q, q ∈ ℓ → t_okv q.1) (h : (t_part j ℓ).1 = true) : x_ht (t_part j ℓ).2.2 0 = some 1 := by
  cases ℓ with
  | nil => exact absurd (show false = true from h) (by decide)
  | cons a T =>
    obtain ⟨c, p⟩ := a
    rw [t_part_c] at h ⊢
    by_cases hc : c = 20 + j
    · rw [if_pos hc] at h ⊢
      exact t_au_ht T [] [] true true (fun q hq => hv q (List.mem_cons_of_mem _ hq)) (fun q hq => absurd hq (by simp)) rfl (t_au T [] [] true true).2.1 _ (Prod.ext h rfl)
    · rw [if_neg hc] at h
      exact absurd (show false = true from h) (by decide)
theorem t_ok_ht {ℓ : List (Nat × Nat)} (hv : ∀ q, q ∈ ℓ → t_okv q.1) (h : t_ok ℓ) : ∀ j, j < 3 → x_ht (t_cs ℓ j) 0 = some 1 := by
  obtain ⟨h1, h2, h3, h4⟩ := h
  have v1 : ∀ q, q ∈ (t_r1 ℓ).2.1 → t_okv q.1 := fun q hq => hv q (t_part_suf 0 ℓ q hq)
  have v2 : ∀ q, q ∈ (t_r2 ℓ).2.1 → t_okv q.1 := fun q hq => v1 q (t_part_suf 1 _ q hq)
  intro j hj
  have : j = 0 ∨ j = 1 ∨ j = 2 := by omega
  rcases this with rfl | rfl | rfl
  · exact t_part_ht hv h1
  · exact t_part_ht v1 h2
  · exact t_part_ht v2 h3
def t_H (t : Nat) (a b : gS) : Prop := (∀ k, k ≠ 0 → k ≠ 6 → k ≠ 7 → k ≠ 15 → b k = a k) ∧ (∀ j, ¬ (18 ≤ j ∧ j < 27) → b 0 j = a 0 j) ∧ (∀ j, ¬ (200 * t ≤ j ∧ j < 200 * t + 200) → b 6 j = a 6 j) ∧ ∀ j, ¬ (4 * t ≤ j ∧ j < 4 * t + 4) → b 7 j = a 7 j
theorem t_H.rf {t : Nat} {a : gS} : t_H t a a := ⟨fun _ _ _ _ _ => rfl, fun _ _ => rfl, fun _ _ => rfl, fun _ _ => rfl⟩
theorem t_H.tr {t : Nat} {a b c : gS} (h : t_H t a b) (g : t_H t b c) : t_H t a c := ⟨fun k h1 h2 h3 h4 => (g.1 k h1 h2 h3 h4).trans (h.1 k h1 h2 h3 h4), fun j h1 => (g.2.1 j h1).trans (h.2.1 j h1), fun j hj => (g.2.2.1 j hj).trans (h.2.2.1 j hj), fun j hj => (g.2.2.2 j hj).trans (h.2.2.2 j hj)⟩
theorem t_N.H {t : Nat} {a b : gS} (h : t_N a b) : t_H t a b := ⟨fun k h0 _ _ _ => h.1 k h0, fun j hj => h.2 j (by omega), fun j _ => by rw [h.1 6 (by decide)], fun j _ => by rw [h.1 7 (by decide)]⟩
theorem t_G.H {t z0 : Nat} {a b : gS} (h : t_G t z0 a b) : t_H t a b := ⟨fun k h0 h6 _ h15 => h.1 k h0 h6 h15, fun j hj => h.2.1 j (Or.inl hj), fun j hj => h.2.2 j (by omega), fun j _ => by rw [h.1 7 (by decide) (by decide) (by decide)]⟩
theorem t_H.up0 {t j : Nat} {v : Int32} {a b : gS} (e : b = g_up a 0 j v) (hj : 18 ≤ j ∧ j < 27) : t_H t a b := ⟨fun k h0 _ _ _ => by rw [e, g_up_n h0], fun i hi => by rw [e, g_up_sj, if_neg (fun z => hi (by rw [z]; exact hj))], fun i _ => by rw [e, g_up_n (by decide)], fun i _ => by rw [e, g_up_n (by decide)]⟩
theorem t_H.st {t i : Nat} {v : Int32} {a b : gS} (hi : i < 4) (e : b = g_up a 7 (4 * t + i) v) : t_H t a b := ⟨fun k _ _ h7 _ => by rw [e, g_up_n h7], fun i _ => by rw [e, g_up_n (by decide)], fun i _ => by rw [e, g_up_n (by decide)], fun q hq => by rw [e, g_up_sj, if_neg (by omega)]⟩
def t_P (t : Nat) (zs cs : List Nat) (b : gS) : Prop := b 0 26 = nI cs.length ∧ (∀ i c, cs[i]? = some c → b 6 (200 * t + i) = nI c) ∧ ∀ i z, zs[i]? = some z → b 7 (4 * t + i) = nI z
theorem t_P.N {t : Nat} {zs cs : List Nat} {a b : gS} (h : t_P t zs cs a) (g : t_N a b) : t_P t zs cs b := ⟨(g.2 26 (by decide)).trans h.1, fun i c hc => by rw [g.1 6 (by decide)]; exact h.2.1 i c hc, fun i z hz => by rw [g.1 7 (by decide)]; exact h.2.2 i z hz⟩
theorem t_P.st {t i : Nat} {zs cs : List Nat} {v : Int32} {a b : gS} (h : t_P t zs cs a) (hi : i = zs.length) (hv : v = nI cs.length) (e : b = g_up a 7 (4 * t + i) v) : t_P t (zs ++ [cs.length]) cs b := by
  refine ⟨by rw [e, g_up_n (by decide)]; exact h.1, fun q c hc => by rw [e, g_up_n (by decide)]; exact h.2.1 q c hc, fun q z hz => ?_⟩
  rw [e, g_up_sj]
  by_cases hq : q < zs.length
  · rw [List.getElem?_append_left hq] at hz
    rw [if_neg (by omega)]
    exact h.2.2 q z hz
  · rw [List.getElem?_append_right (by omega)] at hz
    have hq2 : q = zs.length := Classical.byContradiction (fun y => by
      have : ¬ q - zs.length = 0 := by omega
      obtain ⟨w, hw⟩ : ∃ w, q - zs.length = w + 1 := ⟨q - zs.length - 1, by omega⟩
      rw [hw] at hz
      exact absurd hz (by simp))
    rw [hq2, show zs.length - zs.length = 0 by omega] at hz
    rw [if_pos (by omega), hv]
    exact congrArg nI (Option.some.inj hz)
theorem t_P.G {t : Nat} {zs cs c : List Nat} {a b : gS} (h : t_P t zs cs a) (g : t_G t cs.length a b) (hS : t_S b t cs.length [] c) : t_P t zs (cs ++ c) b := by
  refine ⟨?_, fun i q hq => ?_, fun i z hz => by rw [g.1 7 (by decide) (by decide) (by decide)]; exact h.2.2 i z hz⟩
  · rw [List.length_append]
    exact hS.2.2.2.1
  · by_cases hi : i < cs.length
    · rw [List.getElem?_append_left hi] at hq
      rw [g.2.2 _ (by omega)]
      exact h.2.1 i q hq
    · rw [List.getElem?_append_right (by omega)] at hq
      have := hS.2.2.2.2.2 _ q hq
      rw [show 200 * t + cs.length + (i - cs.length) = 200 * t + i by omega] at this
      exact this
theorem t_P_mT {ℓ : List (Nat × Nat)} {t : Nat} {b : gS} (h : t_P t [0, (t_cs ℓ 0).length, (t_cs ℓ 0 ++ t_cs ℓ 1).length, (t_cs ℓ 0 ++ t_cs ℓ 1 ++ t_cs ℓ 2).length] (t_cs ℓ 0 ++ t_cs ℓ 1 ++ t_cs ℓ 2) b) (hl : (t_cs ℓ 0 ++ t_cs ℓ 1 ++ t_cs ℓ 2).length ≤ 160) : mT (fun _ => t_cs ℓ) b t := by
  obtain ⟨_, h2, h3⟩ := h
  simp only [List.length_append] at h3 hl
  refine ⟨fun j hj => ?_, ?_, fun i c hc => h2 i c (by rw [List.append_assoc]; exact hc)⟩
  · have : j = 0 ∨ j = 1 ∨ j = 2 ∨ j = 3 := by omega
    rcases this with rfl | rfl | rfl | rfl
    · exact h3 0 _ rfl
    · exact h3 1 _ rfl
    · exact h3 2 _ rfl
    · exact h3 3 _ rfl
  · exact hl
