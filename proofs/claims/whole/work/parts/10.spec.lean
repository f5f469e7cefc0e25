def x_ones (v : Int32) : Nat → Int32
  | 0 => 0
  | k + 1 => x_ones v k + x_bit v (nI k)
def x_cnt (v : Int32) : Int32 := x_ones v 10
abbrev gTX : Type := Nat → Nat → List Nat
def x_nm (P : gS) (p : Nat) (bad : Int32) : Nat → Int32 := fun n => if n = 0 then bad else if n = 1 then P 2 p else if n = 2 then x_cnt (P 4 p) else if n = 3 then x_cnt (P 3 p) else if n = 4 then P 0 0 else P 7 p
def x_op2 (c : Nat) (a b : Int32) : Int32 :=
  if c = 11 then (if a = 0 then (if b = 0 then 0 else 1) else 1) else if c = 12 then (if a = 0 then 0 else if b = 0 then 0 else 1) else if c = 14 then (if a < b then 1 else 0) else if c = 15 then (if a = b then 1 else 0) else if c = 16 then a + b else if c = 17 then a - b else a * b
def x_st (nm : Nat → Int32) (c : Nat) (st : List Int32) : List Int32 :=
  if 100000 ≤ c then nI (c - 100000) :: st else if c < 11 then nm c :: st
  else if c = 13 then (match st with
    | a :: r => (if a = 0 then 1 else 0) :: r
    | [] => [])
  else if c = 19 then (match st with
    | a :: r => (-a) :: r
    | [] => [])
  else (match st with
    | b :: a :: r => x_op2 c a b :: r
    | r => r)
def x_ev (nm : Nat → Int32) : List Nat → List Int32 → List Int32
  | [], st => st
  | c :: cs, st => x_ev nm cs (x_st nm c st)
def x_say (nm : Nat → Int32) (cs : List Nat) : Int32 := (x_ev nm cs []).headD 0
def x_clamp (lo v : Int32) : Int32 := if v < lo then lo else if 99 < v then 99 else v
def x_lo (part : Nat) : Int32 := if part = 2 then -99 else 0
def x_asks (TX : gTX) (P : gS) (part p : Nat) (bad : Int32) : Int32 := x_clamp (x_lo part) (x_say (x_nm P p bad) (TX (P 0 3).toNatClampNeg part))
def x_kwC (wanted cur dr : Int32) : Int32 := if wanted = 0 then 0 else if cur < dr then 0 else 1
def x_kwM (wanted cur dr more : Int32) : Int32 := if wanted = 0 then (if cur + 10 * more < dr then 1 else 0) else 1
def x_kw (kind wanted cur dr more hour : Int32) : Int32 :=
  if kind = 1 then x_kwM wanted cur dr more else if kind = 3 then (if hour - hour / 2 * 2 = 0 then x_kwM wanted (cur + more) dr more else 0) else if kind = 4 then (if x_kwC wanted cur dr = 0 then 1 else 0) else if kind = 5 then 0 else x_kwC wanted cur dr
def x_wish (TX : gTX) (P : gS) (p t : Nat) : Int32 := x_kw (P 6 p) (x_bit (P 3 p) (nI t)) (x_asks TX P 0 p (P 1 t)) (x_asks TX P 1 p (P 1 t)) (P 7 p) (P 0 0)
def x_wishes (TX : gTX) (P : gS) (p t : Nat) : Int32 := if x_bit (P 4 p) (nI t) = 0 then x_wish TX P p t else 0
def x_wset (TX : gTX) (P : gS) (p : Nat) (of : Int32) : Nat → Int32
  | 0 => 0
  | k + 1 => if x_bit of (nI k) = 0 then x_wset TX P p of k else if x_wishes TX P p k = 0 then x_wset TX P p of k else x_wset TX P p of k ||| ((1 : Int32) <<< (nI k &&& 31))
def x_hearsD (up more hour : Int32) : Int32 := if up = 1 then (if hour - hour / 3 * 3 = more - more / 3 * 3 then 0 else 1) else 0
def x_hears (kind up more hour : Int32) : Int32 := if kind = 3 then 1 else if kind = 2 then x_hearsD up more hour else if kind = 4 then x_hearsD up more hour else if up = 1 then 1 else 0
def x_lis (P : gS) (p : Nat) : Int32 := x_hears (P 6 p) (P 5 p) (P 7 p) (P 0 0)
def x_kg (kind v more : Int32) : Int32 := if kind = 1 then 0 else if kind = 3 then 0 else if kind = 5 then more else if kind = 2 then -v else if kind = 4 then -v + more else v
def x_goes (TX : gTX) (P : gS) (p : Nat) : Int32 := x_kg (P 6 p) (x_asks TX P 2 p 0) (P 7 p)
def x_at (P : gS) (c : Int32) : Nat → Int32
  | 0 => 0
  | k + 1 => if P 2 k = c then x_at P c k ||| ((1 : Int32) <<< (nI k &&& 31)) else x_at P c k
def x_lisAt (P : gS) (c : Int32) : Nat → Int32
  | 0 => 0
  | k + 1 => if P 2 k = c then (if x_lis P k = 0 then x_lisAt P c k else x_lisAt P c k ||| ((1 : Int32) <<< (nI k &&& 31))) else x_lisAt P c k
def x_mayN (TX : gTX) (P : gS) (c : Int32) (t : Nat) : Nat → Int32
  | 0 => 1
  | k + 1 => if P 2 k = c then (if x_lis P k = 0 then x_mayN TX P c t k else if x_wishes TX P k t = 0 then x_mayN TX P c t k else 0) else x_mayN TX P c t k
def x_n (P : gS) : Nat := (P 0 4).toNatClampNeg
def x_may (TX : gTX) (P : gS) (c : Int32) (t : Nat) : Int32 := x_mayN TX P c t (x_n P)
def x_maysN (TX : gTX) (P : gS) (c of : Int32) : Nat → Int32
  | 0 => 0
  | k + 1 => if x_bit of (nI k) = 0 then x_maysN TX P c of k else if x_may TX P c k = 0 then x_maysN TX P c of k else x_maysN TX P c of k ||| ((1 : Int32) <<< (nI k &&& 31))
def x_mays (TX : gTX) (P : gS) (c of : Int32) : Int32 := x_maysN TX P c of 10
def x_crd (TX : gTX) (P : gS) : Int32 := x_first (x_mays TX P (P 0 1) (P 0 2)) 10 0
def x_bes (P : gS) (p : Nat) : Nat → Int32
  | 0 => 0
  | k + 1 => if k = p then x_bes P p k else if P 2 k = P 2 p then x_bes P p k ||| P 4 k else x_bes P p k
def x_cryN (P0 : gS) (b : Int32) : Nat → gS
  | 0 => g_up P0 0 2 (P0 0 2 &&& (b ^^^ (-1)))
  | k + 1 => if P0 2 k = P0 0 1 then (if x_lis P0 k = 0 then x_cryN P0 b k else g_up (x_cryN P0 b k) 4 k (x_cryN P0 b k 4 k ||| b)) else x_cryN P0 b k
def x_gabN (TX : gTX) (P0 : gS) (n : Nat) : Nat → gS
  | 0 => P0
  | k + 1 => g_up (x_gabN TX P0 n k) 4 k (x_gabN TX P0 n k 4 k ||| x_wset TX (x_gabN TX P0 n k) k (x_bes (x_gabN TX P0 n k) k n) 10)
def x_movN (TX : gTX) (P0 : gS) : Nat → gS
  | 0 => P0
  | k + 1 => g_up (x_movN TX P0 k) 2 k (fmv (x_movN TX P0 k 2 k + x_goes TX (x_movN TX P0 k) k) 9)
def x_pcry (TX : gTX) (P : gS) : gS := if x_crd TX P = -1 then P else x_cryN P ((1 : Int32) <<< (x_crd TX P &&& 31)) (x_n P)
def x_pgab (TX : gTX) (P : gS) : gS := x_gabN TX (x_pcry TX P) (x_n P) (x_n P)
def x_pmov (TX : gTX) (P : gS) : gS := x_movN TX (x_pgab TX P) (x_n P)
def x_pcor (P : gS) : gS := g_up P 0 1 (P 0 1 + 1 - (P 0 1 + 1) / 9 * 9)
def x_pass (TX : gTX) (P : gS) : gS := g_up (x_pcor (x_pmov TX P)) 0 0 (x_pcor (x_pmov TX P) 0 0 + 1)
def x_run (TX : gTX) : Nat → gS → gS
  | 0, P => P
  | k + 1, P => x_pass TX (x_run TX k P)
def x_cr (TX : gTX) : Nat → gS → Int32
  | 0, _ => 0
  | k + 1, P => if x_crd TX (x_run TX k P) = -1 then x_cr TX k P else x_cr TX k P + 1
def x_ht : List Nat → Nat → Option Nat
  | [], h => some h
  | c :: cs, h => if 100000 ≤ c then (if c < 110000 then x_ht cs (h + 1) else none) else if c < 6 then x_ht cs (h + 1) else if c = 13 ∨ c = 19 then (if 1 ≤ h then x_ht cs h else none) else if c = 11 ∨ c = 12 ∨ c = 14 ∨ c = 15 ∨ c = 16 ∨ c = 17 ∨ c = 18 then (if 2 ≤ h then x_ht cs (h - 1) else none) else none
def x_cl (c : Nat) : Int32 := if 100000 ≤ c then nI (c - 100000) else if c < 6 then -(nI (106 + c)) else if c = 11 then -103 else if c = 12 then -104 else if c = 13 then -105 else if c = 14 then -60 else if c = 15 then -61 else if c = 16 then -43 else if c = 17 then -45 else if c = 18 then -42 else -112
def cv (σ : gS) (w : Nat) : gS := fun a => match a with
  | 0 => fun j => if j < 5 then σ w (2 + j) else 0
  | 1 => σ (w + 1)
  | 2 => σ (w + 2)
  | 3 => σ (w + 3)
  | 4 => σ (w + 4)
  | 5 => σ (w + 5)
  | 6 => fun j => if j < (σ w 6).toNatClampNeg then σ (w + 6) j else 0
  | 7 => fun j => if j < (σ w 6).toNatClampNeg then σ (w + 7) j else 0
  | _ => fun _ => 0
def pI (TX : gTX) (nT n l : Nat) (P : gS) : Prop := P 0 4 = nI n ∧ n ≤ 6 ∧ P 0 3 = nI l ∧ l < nT ∧ nT ≤ 6 ∧ (∀ p, p < n → (∃ k, k < 6 ∧ P 6 p = nI k) ∧ (∃ k, k < 1024 ∧ P 3 p = nI k) ∧ ∃ k, k < 1024 ∧ P 4 p = nI k) ∧ (∀ t, t < nT → ∀ j, j < 3 → x_ht (TX t j) 0 = some 1) ∧ (∃ k, k < 1024 ∧ P 0 2 = nI k) ∧ ∃ k, k < 9 ∧ P 0 1 = nI k
def cT (TX : gTX) (σ : gS) (t : Nat) : Prop := σ (6 + 4 * t + 2) 0 = nI (TX t 0).length ∧ σ (6 + 4 * t + 2) 1 = nI ((TX t 0).length + (TX t 1).length) ∧ σ (6 + 4 * t + 2) 2 = nI ((TX t 0).length + (TX t 1).length + (TX t 2).length) ∧ (TX t 0).length + (TX t 1).length + (TX t 2).length ≤ 160 ∧ ∀ i c, (TX t 0 ++ (TX t 1 ++ TX t 2))[i]? = some c → σ (6 + 4 * t + 1) i = x_cl c
def cI (TX : gTX) (nT n l w : Nat) (P σ : gS) : Prop := isW w ∧ cv σ w = P ∧ pI TX nT n l P ∧ ∀ t, t < nT → cT TX σ t
def Fr (m : Nat → Prop) (σ σ' : gS) : Prop := ∀ k, ¬ m k → σ' k = σ k
theorem Fr.rf {m : Nat → Prop} {σ : gS} : Fr m σ σ := fun _ _ => rfl
theorem Fr.tr {m : Nat → Prop} {a b c : gS} (h1 : Fr m a b) (h2 : Fr m b c) : Fr m a c := fun k hk => (h2 k hk).trans (h1 k hk)
theorem Fr.mono {m m' : Nat → Prop} {a b : gS} (h : Fr m a b) (hm : ∀ k, m k → m' k) : Fr m' a b := fun k hk => h k (fun q => hk (hm k q))
theorem Fr.up {m : Nat → Prop} {σ σ' : gS} {k j : Nat} {v : Int32} (e : σ' = g_up σ k j v) (h : m k) : Fr m σ σ' := fun a ha => by
  rw [e]
  exact g_set_n _ _ (fun q => ha (by rw [q]; exact h))
def mS (k : Nat) : Prop := k = 53 ∨ k = 62 ∨ k = 71 ∨ k = 9 ∨ k = 13 ∨ k = 17 ∨ k = 21 ∨ k = 25 ∨ k = 29
def mW (w k : Nat) : Prop := mS k ∨ (w ≤ k ∧ k ≤ w + 8)
theorem mS_val {t : Nat} (h : t < 6) : mS (6 + 4 * t + 3) := by unfold mS; omega
theorem mS_nam {w : Nat} (h : isW w) : mS (w + 8) := by rcases h with rfl | rfl | rfl <;> (unfold mS; omega)
theorem mS_w {w i : Nat} (h : isW w) (hi : i < 8) : ¬ mS (w + i) := by rcases h with rfl | rfl | rfl <;> (unfold mS; omega)
theorem mS_t {t i : Nat} (h : t < 6) (hi : i < 3) : ¬ mS (6 + 4 * t + i) := by unfold mS; omega
theorem cv_fr {m : Nat → Prop} {σ σ' : gS} {w : Nat} (h : Fr m σ σ') (hm : ∀ i, i < 8 → ¬ m (w + i)) : cv σ' w = cv σ w := by
  have e : ∀ i, i < 8 → σ' (w + i) = σ (w + i) := fun i hi => h _ (hm i hi)
  have e0 : σ' w = σ w := e 0 (by decide)
  have e1 : σ' (w + 1) = σ (w + 1) := e 1 (by decide)
  have e2 : σ' (w + 2) = σ (w + 2) := e 2 (by decide)
  have e3 : σ' (w + 3) = σ (w + 3) := e 3 (by decide)
  have e4 : σ' (w + 4) = σ (w + 4) := e 4 (by decide)
  have e5 : σ' (w + 5) = σ (w + 5) := e 5 (by decide)
  have e6 : σ' (w + 6) = σ (w + 6) := e 6 (by decide)
  have e7 : σ' (w + 7) = σ (w + 7) := e 7 (by decide)
  funext a
  unfold cv
  simp only [e0, e1, e2, e3, e4, e5, e6, e7]
theorem cT_fr {m : Nat → Prop} {TX : gTX} {σ σ' : gS} {t : Nat} (h : Fr m σ σ') (h1 : ¬ m (6 + 4 * t + 1)) (h2 : ¬ m (6 + 4 * t + 2)) (hT : cT TX σ t) : cT TX σ' t := by
  unfold cT at hT ⊢
  rw [h _ h1, h _ h2]
  exact hT
theorem cI_fr {TX : gTX} {nT n l w : Nat} {P σ σ' : gS} (hI : cI TX nT n l w P σ) (h : Fr mS σ σ') : cI TX nT n l w P σ' := by
  obtain ⟨hw, hc, hp, hT⟩ := hI
  refine ⟨hw, by rw [cv_fr h (fun i hi => mS_w hw hi)]; exact hc, hp, fun t ht => ?_⟩
  have h6 : t < 6 := Nat.lt_of_lt_of_le ht hp.2.2.2.2.1
  exact cT_fr h (mS_t h6 (by decide)) (mS_t h6 (by decide)) (hT t ht)
theorem cI_v {TX : gTX} {nT n l w : Nat} {P σ : gS} (hI : cI TX nT n l w P σ) (a j : Nat) : cv σ w a j = P a j := by rw [hI.2.1]
theorem cI_n {TX : gTX} {nT n l w : Nat} {P σ : gS} (hI : cI TX nT n l w P σ) : σ w 6 = nI n := (cI_v hI 0 4).trans hI.2.2.1.1
theorem cI_6 {TX : gTX} {nT n l w : Nat} {P σ : gS} (hI : cI TX nT n l w P σ) {j : Nat} (h : j < n) : σ (w + 6) j = P 6 j := by
  have h6 := hI.2.2.1.2.1
  rw [← cI_v hI 6 j]
  show _ = if j < (σ w 6).toNatClampNeg then σ (w + 6) j else 0
  rw [cI_n hI, nI_clamp (by omega), if_pos h]
theorem cI_7 {TX : gTX} {nT n l w : Nat} {P σ : gS} (hI : cI TX nT n l w P σ) {j : Nat} (h : j < n) : σ (w + 7) j = P 7 j := by
  have h6 := hI.2.2.1.2.1
  rw [← cI_v hI 7 j]
  show _ = if j < (σ w 6).toNatClampNeg then σ (w + 7) j else 0
  rw [cI_n hI, nI_clamp (by omega), if_pos h]
theorem x_nOf {P : gS} {n : Nat} (h : P 0 4 = nI n) (h6 : n ≤ 6) : x_n P = n := by
  unfold x_n
  rw [h, nI_clamp (by omega)]
def x_ok (c : Nat) : Prop := (100000 ≤ c ∧ c < 110000) ∨ c < 6 ∨ (11 ≤ c ∧ c < 20)
def x_tk (c : Nat) : Nat := if 100000 ≤ c then 0 else if c < 6 then 0 else if c = 13 then 1 else if c = 19 then 1 else 2
def x_wo (nm : Nat → Int32) (c : Nat) (a b : Int32) : Int32 := if 100000 ≤ c then nI (c - 100000) else if c < 6 then nm c else if c = 13 then (if a = 0 then 1 else 0) else if c = 19 then -a else x_op2 c a b
theorem x_tk2 (c : Nat) : x_tk c ≤ 2 := by unfold x_tk; repeat (first | split | omega)
theorem x_ht_cons {c : Nat} {cs : List Nat} {h r : Nat} (e : x_ht (c :: cs) h = some r) : x_ok c ∧ x_tk c ≤ h ∧ x_ht cs (h - x_tk c + 1) = some r := by
  unfold x_ht at e
  unfold x_ok x_tk
  split at e
  · rename_i h1
    split at e
    · exact ⟨Or.inl ⟨h1, by assumption⟩, by rw [if_pos h1]; omega, by rw [if_pos h1]; exact e⟩
    · cases e
  · rename_i h1
    rw [if_neg h1]
    split at e
    · rename_i h2
      rw [if_pos h2]
      exact ⟨Or.inr (Or.inl h2), by omega, e⟩
    · rename_i h2
      rw [if_neg h2]
      split at e
      · rename_i h3
        split at e
        · rename_i h4
          have : (if c = 13 then 1 else if c = 19 then 1 else 2) = 1 := by rcases h3 with rfl | rfl <;> rfl
          rw [this]
          exact ⟨Or.inr (Or.inr (by omega)), h4, by rw [show h - 1 + 1 = h by omega]; exact e⟩
        · cases e
      · rename_i h3
        split at e
        · rename_i h4
          split at e
          · rename_i h5
            have : (if c = 13 then 1 else if c = 19 then 1 else 2) = 2 := by rw [if_neg (fun q => h3 (Or.inl q)), if_neg (fun q => h3 (Or.inr q))]
            rw [this]
            exact ⟨Or.inr (Or.inr (by omega)), h5, by rw [show h - 2 + 1 = h - 1 by omega]; exact e⟩
          · cases e
        · cases e
def x_stk (f : Nat → Int32) : List Int32 → Prop
  | [] => True
  | a :: r => f r.length = a ∧ x_stk f r
theorem x_stk_upd {f : Nat → Int32} {k : Nat} {v : Int32} : ∀ {r : List Int32}, r.length ≤ k → x_stk f r → x_stk (upd f k v) r := by
  intro r
  induction r with
  | nil => intro _ _; trivial
  | cons a r ih =>
    intro h hs
    simp only [List.length_cons] at h
    exact ⟨by show (if r.length = k then v else f r.length) = a; rw [if_neg (by omega)]; exact hs.1, ih (by omega) hs.2⟩
theorem x_stk_push {f : Nat → Int32} {v : Int32} {r : List Int32} (h : x_stk f r) : x_stk (upd f r.length v) (v :: r) := ⟨if_pos rfl, x_stk_upd (Nat.le_refl _) h⟩
theorem x_stk_drop {f : Nat → Int32} : ∀ {n : Nat} {r : List Int32}, x_stk f r → x_stk f (r.drop n)
  | 0, _, h => h
  | _ + 1, [], _ => trivial
  | n + 1, _ :: r, h => x_stk_drop (n := n) (r := r) h.2
theorem x_st0 {nm : Nat → Int32} {c : Nat} {st : List Int32} (a b : Int32) (ok : x_ok c) (h : x_tk c = 0) : x_st nm c st = x_wo nm c a b :: st := by
  unfold x_tk at h
  unfold x_st x_wo
  split
  · rfl
  · rename_i h1
    rw [if_neg h1] at h
    by_cases h2 : c < 6
    · rw [if_pos (by omega), if_pos h2]
    · rw [if_neg h2] at h
      repeat (split at h <;> try omega)
theorem x_st1 {nm : Nat → Int32} {c : Nat} {r : List Int32} (a b : Int32) (h : x_tk c = 1) : x_st nm c (a :: r) = x_wo nm c a b :: r := by
  unfold x_tk at h
  split at h
  · omega
  · rename_i h1
    split at h
    · omega
    · rename_i h2
      split at h
      · rename_i h3
        subst h3
        rfl
      · rename_i h3
        split at h
        · rename_i h4
          subst h4
          rfl
        · omega
theorem x_st2 {nm : Nat → Int32} {c : Nat} {r : List Int32} (a b : Int32) (ok : x_ok c) (h : x_tk c = 2) : x_st nm c (b :: a :: r) = x_wo nm c a b :: r := by
  unfold x_tk at h
  unfold x_st x_wo
  split at h
  · omega
  · rename_i h1
    split at h
    · omega
    · rename_i h2
      split at h
      · omega
      · rename_i h3
        split at h
        · omega
        · rename_i h4
          unfold x_ok at ok
          rw [if_neg h1, if_neg (by omega), if_neg h3, if_neg h4, if_neg h1, if_neg h2, if_neg h3, if_neg h4]
theorem x_ev_drop {nm : Nat → Int32} {cs : List Nat} {k c : Nat} {st : List Int32} (h : cs[k]? = some c) : x_ev nm (cs.drop k) st = x_ev nm (cs.drop (k + 1)) (x_st nm c st) := by
  rw [List.drop_eq_getElem_cons (List.getElem?_eq_some_iff.mp h).1, (List.getElem?_eq_some_iff.mp h).2]
  rfl
theorem x_ht_drop {cs : List Nat} {k c h r : Nat} (hc : cs[k]? = some c) (e : x_ht (cs.drop k) h = some r) : x_ok c ∧ x_tk c ≤ h ∧ x_ht (cs.drop (k + 1)) (h - x_tk c + 1) = some r := by
  rw [List.drop_eq_getElem_cons (List.getElem?_eq_some_iff.mp hc).1, (List.getElem?_eq_some_iff.mp hc).2] at e
  exact x_ht_cons e
theorem x_ev_congr {f g : Nat → Int32} (hfg : ∀ i, i < 6 → f i = g i) : ∀ (cs : List Nat) (st : List Int32) (h r : Nat), x_ht cs h = some r → x_ev f cs st = x_ev g cs st := by
  intro cs
  induction cs with
  | nil => intro st h r _; rfl
  | cons c cs ih =>
    intro st h r e
    obtain ⟨ok, -, e2⟩ := x_ht_cons e
    have : x_st f c st = x_st g c st := by
      unfold x_st
      by_cases h1 : 100000 ≤ c
      · rw [if_pos h1, if_pos h1]
      · rw [if_neg h1, if_neg h1]
        by_cases h2 : c < 11
        · rw [if_pos h2, if_pos h2, hfg c (by unfold x_ok at ok; omega)]
        · rw [if_neg h2, if_neg h2]
    show x_ev f cs (x_st f c st) = x_ev g cs (x_st g c st)
    rw [this]
    exact ih _ _ _ e2
theorem x_say_congr {f g : Nat → Int32} (hfg : ∀ i, i < 6 → f i = g i) {cs : List Nat} (h : x_ht cs 0 = some 1) : x_say f cs = x_say g cs := by
  unfold x_say
  rw [x_ev_congr hfg cs [] 0 1 h]
def g_le : List (Option Value) → List (Option Value) → Prop
  | [], [] => True
  | none :: a, _ :: b => g_le a b
  | some v :: a, some w :: b => v = w ∧ g_le a b
  | _, _ => False
theorem g_le_at : ∀ {a b : List (Option Value)}, g_le a b → a.length = b.length ∧ ∀ (i : Nat) (v : Value), a[i]? = some (some v) → b[i]? = some (some v)
  | [], [], _ => ⟨rfl, fun i v h => h⟩
  | none :: a, w :: b, h => by
    obtain ⟨h1, h2⟩ := g_le_at (a := a) (b := b) (by cases w <;> exact h)
    refine ⟨by simp [h1], fun i v hv => ?_⟩
    cases i with
    | zero => simp at hv
    | succ i => exact h2 i v hv
  | some v :: a, some w :: b, h => by
    obtain ⟨h1, h2⟩ := g_le_at (a := a) (b := b) h.2
    refine ⟨by simp [h1], fun i v' hv => ?_⟩
    cases i with
    | zero => rw [← h.1]; exact hv
    | succ i => exact h2 i v' hv
  | [], _ :: _, h => h.elim
  | some _ :: _, [], h => h.elim
  | some _ :: _, none :: _, h => h.elim
  | none :: _, [], h => h.elim
theorem G_drop {S : gSd} {E : gE} {Q : State → Prop} {pc : Nat} {L' L : List (Option Value)} {st : List Value} {σ : gS} (h : g_le L' L) (k : GW S E Q pc L' st σ) : GW S E Q pc L st σ := by
  obtain ⟨h1, h2⟩ := g_le_at h
  intro H locs ls hP hS hl hz
  refine k H locs ls hP hS ⟨by rw [h1]; exact hl.1, hl.2.1, fun q hq => ?_⟩ hz
  obtain ⟨i, v⟩ := q
  exact lvx_at hl (h2 i v (gl_mem0.mp hq))
def x_bc0 (i : Int32) : Int32 := i - ((i.toUInt32 >>> ((1 : Int32).toUInt32 &&& Int32.toUInt32 31)).toInt32 &&& 1431655765)
def x_bc1 (i : Int32) : Int32 := (i &&& 858993459) + ((i.toUInt32 >>> ((2 : Int32).toUInt32 &&& Int32.toUInt32 31)).toInt32 &&& 858993459)
def x_bc2 (i : Int32) : Int32 := (i + (i.toUInt32 >>> ((4 : Int32).toUInt32 &&& Int32.toUInt32 31)).toInt32) &&& 252645135
def x_bc3 (k i : Int32) : Int32 := i + (i.toUInt32 >>> (k.toUInt32 &&& Int32.toUInt32 31)).toInt32
def x_bc (i : Int32) : Int32 := x_bc3 16 (x_bc3 8 (x_bc2 (x_bc1 (x_bc0 i)))) &&& 63
theorem x_bc_cnt : ∀ k, k < 1024 → x_bc (nI k) = x_cnt (nI k) := by decide +kernel
theorem x_negx (x : Int32) : (x ^^^ 9) < 0 ↔ x < 0 := by
  rw [Int32.lt_iff_toBitVec_slt, Int32.lt_iff_toBitVec_slt]
  have e : (9#32).msb = false := by decide
  simp [BitVec.slt_zero_eq_msb, BitVec.msb_xor, e]
theorem x_fm9 (x : Int32) : (if (x ^^^ 9) < 0 then (if x - x / 9 * 9 = 0 then x - x / 9 * 9 else x - x / 9 * 9 + 9) else x - x / 9 * 9) = fmv x 9 := by
  have hr : (x - x / 9 * 9).toInt = x.toInt.tmod (9 : Int32).toInt := rem_toInt x 9
  unfold fmv fmOf
  generalize x - x / 9 * 9 = r at hr
  have h9 : (9 : Int32).toInt = 9 := rfl
  rw [h9] at hr
  by_cases hx : x < 0
  · rw [if_pos ((x_negx x).mpr hx)]
    have hx2 : x.toInt < 0 := Int32.lt_iff_toInt_lt.mp hx
    have h0 : r.toInt ≤ 0 := by
      have := Int.tmod_nonneg 9 (a := -x.toInt) (by omega)
      rw [Int.neg_tmod] at this
      omega
    by_cases h : r = 0
    · rw [if_pos h, h]
      rfl
    · have h1 : ¬ 0 ≤ r := by
        intro q
        have q2 : (0 : Int32).toInt ≤ r.toInt := Int32.le_iff_toInt_le.mp q
        have q3 : (0 : Int32).toInt = 0 := rfl
        exact h (Int32.toInt_inj.mp (by omega))
      rw [if_neg h, if_neg h1]
  · rw [if_neg (fun q => hx ((x_negx x).mp q))]
    have hx2 : ¬ x.toInt < (0 : Int32).toInt := fun q => hx (Int32.lt_iff_toInt_lt.mpr q)
    have q3 : (0 : Int32).toInt = 0 := rfl
    have h0 : 0 ≤ r.toInt := by
      rw [hr]
      exact Int.tmod_nonneg 9 (by omega)
    rw [if_pos (Int32.le_iff_toInt_le.mpr (by omega))]
