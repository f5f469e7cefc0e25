def mv (τ : gS) : gS := fun a => match a with
  | 0 => fun j => if j = 0 then τ 4 0 else if j = 1 then τ 4 1 else if j = 2 then τ 4 2 else if j = 3 then τ 0 10 else if j = 4 then τ 0 0 else 0
  | 1 => fun j => τ 4 (3 + j)
  | 2 => fun j => τ 3 (4 * j)
  | 3 => fun j => τ 3 (4 * j + 1)
  | 4 => fun j => τ 3 (4 * j + 2)
  | 5 => fun j => τ 3 (4 * j + 3)
  | 6 => fun j => if j < (τ 0 0).toNatClampNeg then τ 1 j else 0
  | 7 => fun j => if j < (τ 0 0).toNatClampNeg then τ 2 j else 0
  | _ => fun _ => 0
def mT (TX : gTX) (τ : gS) (t : Nat) : Prop := (∀ j, j < 4 → τ 7 (4 * t + j) = nI (x_beg TX t j)) ∧ x_end TX t 2 ≤ 160 ∧ ∀ i c, (TX t 0 ++ (TX t 1 ++ TX t 2))[i]? = some c → τ 6 (200 * t + i) = nI c
def mI (TX : gTX) (nT n l : Nat) (P τ : gS) : Prop := mv τ = P ∧ pI TX nT n l P ∧ ∀ t, t < nT → mT TX τ t
def mM (k : Nat) : Prop := k = 16 ∨ k = 17
def mH (k : Nat) : Prop := k = 3 ∨ k = 4 ∨ k = 16 ∨ k = 17
theorem mM_16 : mM 16 := Or.inl rfl
theorem mM_17 : mM 17 := Or.inr rfl
theorem Fr.M16 {a b : gS} (h : Fr (fun q => q = 16) a b) : Fr mM a b := h.mono (fun k hk => Or.inl hk)
theorem Fr.H {a b : gS} (h : Fr mM a b) : Fr mH a b := h.mono (fun k hk => by rcases hk with h | h; exact Or.inr (Or.inr (Or.inl h)); exact Or.inr (Or.inr (Or.inr h)))
theorem mT_fr {TX : gTX} {m : Nat → Prop} {σ σ' : gS} {t : Nat} (h : Fr m σ σ') (h6 : ¬ m 6) (h7 : ¬ m 7) (hT : mT TX σ t) : mT TX σ' t := by
  unfold mT at hT ⊢
  rw [h _ h6, h _ h7]
  exact hT
theorem mv_fr {m : Nat → Prop} {σ σ' : gS} (h : Fr m σ σ') (h0 : ¬ m 0) (h1 : ¬ m 1) (h2 : ¬ m 2) (h3 : ¬ m 3) (h4 : ¬ m 4) : mv σ' = mv σ := by
  funext a
  unfold mv
  rw [h _ h0, h _ h1, h _ h2, h _ h3, h _ h4]
theorem mI_fr {TX : gTX} {nT n l : Nat} {P σ σ' : gS} (hI : mI TX nT n l P σ) (h : Fr mM σ σ') : mI TX nT n l P σ' := by
  obtain ⟨hc, hp, hT⟩ := hI
  refine ⟨by rw [mv_fr h (by unfold mM; omega) (by unfold mM; omega) (by unfold mM; omega) (by unfold mM; omega) (by unfold mM; omega)]; exact hc, hp, fun t ht => mT_fr h (by unfold mM; omega) (by unfold mM; omega) (hT t ht)⟩
theorem mI_v {TX : gTX} {nT n l : Nat} {P σ : gS} (hI : mI TX nT n l P σ) (a j : Nat) : mv σ a j = P a j := by rw [hI.1]
theorem mI_n {TX : gTX} {nT n l : Nat} {P σ : gS} (hI : mI TX nT n l P σ) : σ 0 0 = nI n := (mI_v hI 0 4).trans hI.2.1.1
theorem mI_l {TX : gTX} {nT n l : Nat} {P σ : gS} (hI : mI TX nT n l P σ) : σ 0 10 = nI l := (mI_v hI 0 3).trans hI.2.1.2.2.1
theorem mI_6 {TX : gTX} {nT n l : Nat} {P σ : gS} (hI : mI TX nT n l P σ) {j : Nat} (h : j < n) : σ 1 j = P 6 j := by
  have h6 := hI.2.1.2.1
  rw [← mI_v hI 6 j]
  show _ = if j < (σ 0 0).toNatClampNeg then σ 1 j else 0
  rw [mI_n hI, nI_clamp (by omega), if_pos h]
theorem mI_7 {TX : gTX} {nT n l : Nat} {P σ : gS} (hI : mI TX nT n l P σ) {j : Nat} (h : j < n) : σ 2 j = P 7 j := by
  have h6 := hI.2.1.2.1
  rw [← mI_v hI 7 j]
  show _ = if j < (σ 0 0).toNatClampNeg then σ 2 j else 0
  rw [mI_n hI, nI_clamp (by omega), if_pos h]
theorem mI_t {TX : gTX} {nT n l : Nat} {P σ : gS} (hI : mI TX nT n l P σ) : mT TX σ l := hI.2.2 l hI.2.1.2.2.2.1
theorem mI_l6 {TX : gTX} {nT n l : Nat} {P σ : gS} (hI : mI TX nT n l P σ) : l < 6 := Nat.lt_of_lt_of_le hI.2.1.2.2.2.1 hI.2.1.2.2.2.2.1
theorem mI_h {TX : gTX} {nT n l : Nat} {P σ : gS} (hI : mI TX nT n l P σ) {j : Nat} (hj : j < 3) : x_ht (TX l j) 0 = some 1 := hI.2.1.2.2.2.2.2.2.1 l hI.2.1.2.2.2.1 j hj
theorem mI_law {TX : gTX} {nT n l : Nat} {P σ : gS} (hI : mI TX nT n l P σ) : (P 0 3).toNatClampNeg = l := by
  have h := mI_l6 hI
  rw [hI.2.1.2.2.1, nI_clamp (by omega)]
theorem mI_p {TX : gTX} {nT n l : Nat} {P σ : gS} (hI : mI TX nT n l P σ) {p : Nat} (hp : p < n) : (∃ k, k < 6 ∧ P 6 p = nI k) ∧ (∃ k, k < 1024 ∧ P 3 p = nI k) ∧ ∃ k, k < 1024 ∧ P 4 p = nI k := hI.2.1.2.2.2.2.2.1 p hp
theorem y_asksE {TX : gTX} {nT n l : Nat} {P σ : gS} (hI : mI TX nT n l P σ) {p j : Nat} {bad : Int32} (hj : j < 3) {f : Nat → Int32} (hf : ∀ i, i < 6 → f i = x_nm P p bad i) : x_clamp (x_lo j) (x_say f (TX l j)) = x_asks TX P j p bad := by
  unfold x_asks
  rw [mI_law hI, x_say_congr hf (mI_h hI hj)]
theorem mT_len {TX : gTX} {σ : gS} {t : Nat} (h : mT TX σ t) {j : Nat} (hj : j < 3) : x_beg TX t j + (TX t j).length ≤ 160 := by
  have h4 := h.2.1
  have e := x_begE (TX := TX) (t := t) hj
  rw [← e]
  have : j = 0 ∨ j = 1 ∨ j = 2 := by omega
  have e2 : x_end TX t 2 = (TX t 0).length + (TX t 1).length + (TX t 2).length := rfl
  rcases this with rfl | rfl | rfl
  · show (TX t 0).length ≤ 160
    omega
  · show (TX t 0).length + (TX t 1).length ≤ 160
    omega
  · exact h4
theorem mT_step {TX : gTX} {σ : gS} {t : Nat} (h : mT TX σ t) {j k c : Nat} (hj : j < 3) (hc : (TX t j)[k]? = some c) : σ 6 (200 * t + (x_beg TX t j + k)) = nI c := by
  refine h.2.2 _ _ ?_
  have hk := (List.getElem?_eq_some_iff.mp hc).1
  have : j = 0 ∨ j = 1 ∨ j = 2 := by omega
  rcases this with rfl | rfl | rfl
  · show (TX t 0 ++ (TX t 1 ++ TX t 2))[0 + k]? = some c
    rw [Nat.zero_add, List.getElem?_append_left hk]
    exact hc
  · show (TX t 0 ++ (TX t 1 ++ TX t 2))[(TX t 0).length + k]? = some c
    rw [List.getElem?_append_right (by omega), Nat.add_sub_cancel_left, List.getElem?_append_left hk]
    exact hc
  · show (TX t 0 ++ (TX t 1 ++ TX t 2))[(TX t 0).length + (TX t 1).length + k]? = some c
    rw [List.getElem?_append_right (by omega), List.getElem?_append_right (by omega), show (TX t 0).length + (TX t 1).length + k - (TX t 0).length - (TX t 1).length = k by omega]
    exact hc
theorem g_decN {x a : Int32} {m : Nat} (h : x = a + (-1)) (ha : a = nI m) (h1 : 1 ≤ m) : x = nI (m - 1) := by
  obtain ⟨q, rfl⟩ : ∃ q, m = q + 1 := ⟨m - 1, by omega⟩
  rw [h, ha, pk_m1]
  rfl
theorem x_wo_num {nm : Nat → Int32} {c : Nat} {a b : Int32} (h : 100000 ≤ c) : x_wo nm c a b = nI (c - 100000) := if_pos h
theorem x_wo_nam {nm : Nat → Int32} {c : Nat} {a b : Int32} (h : c < 6) : x_wo nm c a b = nm c := by
  unfold x_wo
  rw [if_neg (by omega), if_pos h]
theorem x_tk_num {c : Nat} (h : 100000 ≤ c ∨ c < 6) : x_tk c = 0 := by
  unfold x_tk
  rcases h with h | h
  · rw [if_pos h]
  · rw [if_neg (by omega), if_pos h]
theorem x_tk_bin {c : Nat} (ok : x_ok c) (h1 : ¬ 100000 ≤ c) (h2 : ¬ c < 11) (h3 : ¬ c = 13) (h4 : ¬ c = 19) : x_tk c = 2 := by
  unfold x_tk
  rw [if_neg h1, if_neg (by omega), if_neg h3, if_neg h4]
theorem x_wo_bin {nm : Nat → Int32} {c : Nat} {a b : Int32} (h1 : ¬ 100000 ≤ c) (h2 : ¬ c < 11) (h3 : ¬ c = 13) (h4 : ¬ c = 19) : x_wo nm c a b = x_op2 c a b := by
  unfold x_wo
  rw [if_neg h1, if_neg (by omega), if_neg h3, if_neg h4]
