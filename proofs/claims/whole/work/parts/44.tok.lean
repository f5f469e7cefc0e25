def t_sk (f : Nat → Int32) (e : Nat) : Nat → Nat → Nat
  | 0, p => p
  | k + 1, p => if p < e then (if f p = 32 then t_sk f e k (p + 1) else if f p = 10 then t_sk f e k (p + 1) else p) else p
def t_pl (f : Nat → Int32) (e p : Nat) : Nat := t_sk f e (e - p) p
def t_run (f : Nat → Int32) (e : Nat) (a b : Int32) : Nat → Nat → Nat
  | 0, p => p
  | k + 1, p => if p < e then (if x_in (f p) a b = 0 then p else t_run f e a b k (p + 1)) else p
def t_end (f : Nat → Int32) (e : Nat) (a b : Int32) (p : Nat) : Nat := t_run f e a b (e - p) p
def t_val (f : Nat → Int32) (i : Nat) : Nat → Nat
  | 0 => 0
  | k + 1 => 10 * t_val f i k + ((f (i + k)).toNatClampNeg - 48)
def t_eq (f : Nat → Int32) : Nat → List Int32 → Bool
  | _, [] => true
  | i, a :: l => decide (f i = a) && t_eq f (i + 1) l
def t_is (f : Nat → Int32) (i n : Nat) (w : List Int32) : Bool := decide (n = w.length) && t_eq f i w
def t_kw (f : Nat → Int32) (i n : Nat) : List (List Int32 × Nat) → Nat
  | [] => 1
  | (w, c) :: l => if t_is f i n w = true then c else t_kw f i n l
def t_wd : Nat → List Int32 := fun k => [[99, 117, 114, 105, 111, 117, 115], [100, 114, 101, 97, 100, 115], [103, 111, 101, 115], [98, 97, 100], [99, 111, 114, 110, 101, 114], [107, 110, 111, 119, 110], [119, 97, 110, 116, 101, 100], [104, 111, 117, 114], [109, 111, 114, 101], [111, 114], [97, 110, 100], [110, 111, 116]].getD k []
def t_kc : Nat → Nat := fun k => [20, 21, 22, 30, 31, 32, 33, 34, 35, 11, 12, 13].getD k 1
def t_tab : List (List Int32 × Nat) := (List.range 12).map (fun k => (t_wd k, t_kc k))
def t_sg (c : Int32) : Nat := if c = 40 then 40 else if c = 41 then 41 else if c = 59 then 42 else if c = 43 then 16 else if c = 45 then 17 else if c = 42 then 18 else if c = 60 then 14 else if c = 61 then 15 else 1
def t_cd (f : Nat → Int32) (e i : Nat) : Nat :=
  if x_in (f i) 97 122 = 0 then (if x_in (f i) 48 57 = 0 then t_sg (f i) else if 4 < t_end f e 48 57 i - i then 1 else 100000 + t_val f i (t_end f e 48 57 i - i)) else t_kw f i (t_end f e 97 122 i - i) t_tab
def t_nx (f : Nat → Int32) (e i : Nat) : Nat :=
  if x_in (f i) 97 122 = 0 then (if x_in (f i) 48 57 = 0 then i + 1 else t_end f e 48 57 i) else t_end f e 97 122 i
def t_tl (f : Nat → Int32) (e : Nat) : Nat → Nat → List (Nat × Nat)
  | 0, _ => []
  | k + 1, p => if t_pl f e p < e then (t_cd f e (t_pl f e p), t_pl f e p) :: t_tl f e k (t_nx f e (t_pl f e p)) else [(0, t_pl f e p)]
def t_L (f : Nat → Int32) (e p : Nat) : List (Nat × Nat) := t_tl f e (e + 1 - p) p
theorem t_pl_b {f : Nat → Int32} {e p : Nat} (h : p < e) (hb : f p = 32 ∨ f p = 10) : t_pl f e p = t_pl f e (p + 1) := by
  unfold t_pl
  rw [show e - p = (e - (p + 1)) + 1 by omega, t_sk, if_pos h]
  by_cases h1 : f p = 32
  · rw [if_pos h1]
  · rw [if_neg h1, if_pos (hb.resolve_left h1)]
theorem t_pl_e {f : Nat → Int32} {e p : Nat} (h : e ≤ p) : t_pl f e p = p := by
  unfold t_pl
  rw [show e - p = 0 by omega]
  rfl
theorem t_pl_n {f : Nat → Int32} {e p : Nat} (h : p < e) (h1 : ¬ f p = 32) (h2 : ¬ f p = 10) : t_pl f e p = p := by
  unfold t_pl
  rw [show e - p = (e - (p + 1)) + 1 by omega, t_sk, if_pos h, if_neg h1, if_neg h2]
theorem t_sk_ge (f : Nat → Int32) (e : Nat) : ∀ k p, p ≤ t_sk f e k p ∧ t_sk f e k p ≤ p + k := by
  intro k
  induction k with
  | zero => exact fun p => ⟨Nat.le_refl _, Nat.le_refl _⟩
  | succ k ih =>
    intro p
    have h := ih (p + 1)
    unfold t_sk
    repeat' split
    all_goals omega
theorem t_pl_ge (f : Nat → Int32) (e p : Nat) : p ≤ t_pl f e p := (t_sk_ge f e _ p).1
theorem t_pl_le {f : Nat → Int32} {e p : Nat} (h : p ≤ e) : t_pl f e p ≤ e := by
  have := (t_sk_ge f e (e - p) p).2
  unfold t_pl
  omega
theorem t_run_ge (f : Nat → Int32) (e : Nat) (a b : Int32) : ∀ k p, p ≤ t_run f e a b k p ∧ t_run f e a b k p ≤ p + k := by
  intro k
  induction k with
  | zero => exact fun p => ⟨Nat.le_refl _, Nat.le_refl _⟩
  | succ k ih =>
    intro p
    have h := ih (p + 1)
    unfold t_run
    repeat' split
    all_goals omega
theorem t_end_ge (f : Nat → Int32) (e : Nat) (a b : Int32) (p : Nat) : p ≤ t_end f e a b p := (t_run_ge f e a b _ p).1
theorem t_end_le {f : Nat → Int32} {e : Nat} {a b : Int32} {p : Nat} (h : p ≤ e) : t_end f e a b p ≤ e := by
  have := (t_run_ge f e a b (e - p) p).2
  unfold t_end
  omega
theorem t_end_s {f : Nat → Int32} {e : Nat} {a b : Int32} {p : Nat} (h : p < e) (hb : ¬ x_in (f p) a b = 0) : t_end f e a b p = t_end f e a b (p + 1) := by
  unfold t_end
  rw [show e - p = (e - (p + 1)) + 1 by omega, t_run, if_pos h, if_neg hb]
theorem t_end_n {f : Nat → Int32} {e : Nat} {a b : Int32} {p : Nat} (h : p < e) (hb : x_in (f p) a b = 0) : t_end f e a b p = p := by
  unfold t_end
  rw [show e - p = (e - (p + 1)) + 1 by omega, t_run, if_pos h, if_pos hb]
theorem t_end_e {f : Nat → Int32} {e : Nat} {a b : Int32} {p : Nat} (h : e ≤ p) : t_end f e a b p = p := by
  unfold t_end
  rw [show e - p = 0 by omega]
  rfl
theorem t_run_in (f : Nat → Int32) (e : Nat) (a b : Int32) : ∀ k p j, p ≤ j → j < t_run f e a b k p → ¬ x_in (f j) a b = 0 := by
  intro k
  induction k with
  | zero => intro p j h1 h2; exact absurd h2 (by unfold t_run; omega)
  | succ k ih =>
    intro p j h1 h2
    unfold t_run at h2
    by_cases h : p < e
    · rw [if_pos h] at h2
      by_cases hb : x_in (f p) a b = 0
      · rw [if_pos hb] at h2
        omega
      · rw [if_neg hb] at h2
        by_cases ej : j = p
        · rw [ej]; exact hb
        · exact ih (p + 1) j (by omega) h2
    · rw [if_neg h] at h2
      omega
theorem t_end_in {f : Nat → Int32} {e : Nat} {a b : Int32} {p j : Nat} (h1 : p ≤ j) (h2 : j < t_end f e a b p) : ¬ x_in (f j) a b = 0 := t_run_in f e a b _ p j h1 h2
theorem t_nx_gt {f : Nat → Int32} {e i : Nat} (h : i < e) : i < t_nx f e i := by
  unfold t_nx
  split
  · split
    · omega
    · rename_i h1
      rw [t_end_s h h1]
      have := t_end_ge f e 48 57 (i + 1)
      omega
  · rename_i h1
    rw [t_end_s h h1]
    have := t_end_ge f e 97 122 (i + 1)
    omega
theorem t_nx_le {f : Nat → Int32} {e i : Nat} (h : i < e) : t_nx f e i ≤ e := by
  unfold t_nx
  repeat' split
  · omega
  · exact t_end_le (by omega)
  · exact t_end_le (by omega)
theorem t_tl_s (f : Nat → Int32) (e : Nat) : ∀ k p, e < p + k → 1 ≤ k → t_tl f e k p = t_tl f e (k + 1) p := by
  intro k
  induction k with
  | zero => intro p h h1; omega
  | succ k ih =>
    intro p h _
    rw [t_tl, t_tl]
    by_cases hp : t_pl f e p < e
    · have h1 := t_pl_ge f e p
      have h2 := t_nx_gt (f := f) hp
      rw [if_pos hp, if_pos hp, ih _ (by omega) (by omega)]
    · rw [if_neg hp, if_neg hp]
theorem t_tl_m {f : Nat → Int32} {e k p : Nat} (h : e < p + k) (h1 : 1 ≤ k) : ∀ m, t_tl f e k p = t_tl f e (k + m) p := by
  intro m
  induction m with
  | zero => rfl
  | succ m ih => rw [ih, t_tl_s f e (k + m) p (by omega) (by omega)]; rfl
theorem t_L_c {f : Nat → Int32} {e p : Nat} (h : t_pl f e p < e) : t_L f e p = (t_cd f e (t_pl f e p), t_pl f e p) :: t_L f e (t_nx f e (t_pl f e p)) := by
  have h1 := t_pl_ge f e p
  have h2 := t_nx_gt (f := f) h
  have h3 := t_nx_le (f := f) h
  unfold t_L
  rw [show e + 1 - p = (e - p) + 1 by omega, t_tl, if_pos h]
  congr 1
  rw [t_tl_m (k := e - p) (by omega) (by omega) (e + 1 - t_nx f e (t_pl f e p)), t_tl_m (k := e + 1 - t_nx f e (t_pl f e p)) (by omega) (by omega) (e - p), Nat.add_comm]
theorem t_L_e {f : Nat → Int32} {e p : Nat} (h : ¬ t_pl f e p < e) (hp : p ≤ e) : t_L f e p = [(0, t_pl f e p)] := by
  unfold t_L
  rw [show e + 1 - p = (e - p) + 1 by omega, t_tl, if_neg h]
theorem t_eq_iff (f : Nat → Int32) : ∀ (w : List Int32) (i : Nat), t_eq f i w = true ↔ ∀ j, j < w.length → f (i + j) = w.getD j 0 := by
  intro w
  induction w with
  | nil => intro i; exact ⟨fun _ j hj => absurd hj (by simp), fun _ => rfl⟩
  | cons a l ih =>
    intro i
    unfold t_eq
    rw [Bool.and_eq_true, decide_eq_true_eq, ih (i + 1)]
    constructor
    · rintro ⟨h1, h2⟩ j hj
      cases j with
      | zero => exact h1
      | succ j =>
        have := h2 j (by simpa using hj)
        rw [show i + (j + 1) = i + 1 + j by omega, this]
        rfl
    · intro h
      refine ⟨h 0 (by simp), fun j hj => ?_⟩
      have := h (j + 1) (by simpa using hj)
      rw [show i + 1 + j = i + (j + 1) by omega, this]
      rfl
theorem t_is_iff {f : Nat → Int32} {i n : Nat} {w : List Int32} : t_is f i n w = true ↔ n = w.length ∧ ∀ j, j < n → f (i + j) = w.getD j 0 := by
  unfold t_is
  rw [Bool.and_eq_true, decide_eq_true_eq, t_eq_iff]
  constructor
  · rintro ⟨h1, h2⟩
    exact ⟨h1, fun j hj => h2 j (by omega)⟩
  · rintro ⟨h1, h2⟩
    exact ⟨h1, fun j hj => h2 j (by omega)⟩
theorem t_wd_inj : ∀ a, a < 12 → ∀ b, b < 12 → t_wd a = t_wd b → a = b := by decide +kernel
theorem t_is_uni {f : Nat → Int32} {i n a b : Nat} (ha : a < 12) (hb : b < 12) (h1 : t_is f i n (t_wd a) = true) (h2 : t_is f i n (t_wd b) = true) : a = b := by
  obtain ⟨q1, q2⟩ := t_is_iff.mp h1
  obtain ⟨r1, r2⟩ := t_is_iff.mp h2
  refine t_wd_inj a ha b hb (List.ext_getElem (by omega) (fun j hj1 hj2 => ?_))
  have z1 := q2 j (by omega)
  have z2 := r2 j (by omega)
  rw [z1] at z2
  have g : ∀ (l : List Int32) (h : j < l.length), l.getD j 0 = l[j] := fun l h => by simp [List.getD, List.getElem?_eq_getElem h]
  rw [g _ hj1, g _ hj2] at z2
  exact z2
theorem t_kw_gen {f : Nat → Int32} {i n : Nat} : ∀ (l : List Nat), t_kw f i n (l.map (fun k => (t_wd k, t_kc k))) = match l.find? (fun k => t_is f i n (t_wd k)) with
  | some k => t_kc k
  | none => 1 := by
  intro l
  induction l with
  | nil => rfl
  | cons a l ih =>
    show t_kw f i n ((t_wd a, t_kc a) :: l.map (fun k => (t_wd k, t_kc k))) = _
    unfold t_kw
    rw [List.find?_cons]
    by_cases h : t_is f i n (t_wd a) = true
    · rw [if_pos h]
      simp [h]
    · rw [if_neg h, ih]
      simp [h]
theorem t_kw_yes {f : Nat → Int32} {i n k : Nat} (hk : k < 12) (h : t_is f i n (t_wd k) = true) : t_kw f i n t_tab = t_kc k := by
  unfold t_tab
  rw [t_kw_gen]
  cases hf : (List.range 12).find? (fun k => t_is f i n (t_wd k)) with
  | none =>
    have := List.find?_eq_none.mp hf k (List.mem_range.mpr hk)
    exact absurd h this
  | some a =>
    have h1 := List.find?_some hf
    have h2 := List.mem_range.mp (List.mem_of_find?_eq_some hf)
    have := t_is_uni h2 hk h1 h
    rw [this]
theorem t_kw_no {f : Nat → Int32} {i n : Nat} (h : ∀ k, k < 12 → ¬ t_is f i n (t_wd k) = true) : t_kw f i n t_tab = 1 := by
  unfold t_tab
  rw [t_kw_gen]
  have : (List.range 12).find? (fun k => t_is f i n (t_wd k)) = none := List.find?_eq_none.mpr (fun k hk => h k (List.mem_range.mp hk))
  rw [this]
theorem t_wlen : ∀ k, k < 12 → (t_wd k).length ≤ 8 ∧ ∀ c, c < 8 → mWordF (8 * k + c) = if c < (t_wd k).length then (t_wd k).getD c 0 else 32 := by decide +kernel
theorem t_wlet : ∀ k, k < 12 → ∀ c, c < (t_wd k).length → ¬ (t_wd k).getD c 0 = 32 := by decide +kernel
theorem x_in32 {x : Int32} (h : ¬ x_in x 97 122 = 0) : ¬ x = 32 := by
  intro e
  rw [e] at h
  exact h (by decide)
theorem t_lk {f : Nat → Int32} {i n k : Nat} (hk : k < 12) (hl : ∀ j, j < n → ¬ x_in (f (i + j)) 97 122 = 0) : (n ≤ 8 ∧ ∀ c, c < 8 → mWordF (8 * k + c) = if c < n then f (i + c) else 32) ↔ t_is f i n (t_wd k) = true := by
  obtain ⟨w1, w2⟩ := t_wlen k hk
  rw [t_is_iff]
  constructor
  · rintro ⟨h1, h2⟩
    have hn : n = (t_wd k).length := by
      rcases Nat.lt_trichotomy n (t_wd k).length with q | q | q
      · exfalso
        have a := h2 n (by omega)
        rw [w2 n (by omega), if_pos q, if_neg (by omega)] at a
        exact t_wlet k hk n q a
      · exact q
      · exfalso
        have a := h2 (t_wd k).length (by omega)
        rw [w2 _ (by omega), if_neg (by omega), if_pos q] at a
        exact x_in32 (hl _ q) a.symm
    refine ⟨hn, fun j hj => ?_⟩
    have a := h2 j (by omega)
    rw [w2 j (by omega), if_pos (by omega), if_pos hj] at a
    exact a.symm
  · rintro ⟨h1, h2⟩
    refine ⟨by omega, fun c hc => ?_⟩
    rw [w2 c hc]
    by_cases q : c < n
    · rw [if_pos q, if_pos (by omega), h2 c q]
    · rw [if_neg q, if_neg (by omega)]
def t_rk (c : Nat) : Nat := if c = 0 then 0 else if c = 11 then 1 else if c = 12 then 2 else if c = 13 then 3 else if c ≤ 15 then 4 else if c ≤ 17 then 5 else if c = 18 then 6 else 7
def t_op : List Nat → Nat
  | [] => 0
  | c :: h => if c = 0 then t_op h + 1 else if c = 13 then t_op h + 1 else if c = 19 then t_op h + 1 else t_op h
def t_u (r : Nat) : List Nat → List Nat → List Nat × List Nat
  | [], out => ([], out)
  | c :: h, out => if r ≤ t_rk c then t_u r h (out ++ [c]) else (c :: h, out)
def t_top : List Nat → Nat
  | [] => 0
  | c :: _ => t_rk c
def t_isV (c : Nat) : Prop := 100000 ≤ c ∨ (30 ≤ c ∧ c < 36)
def t_vc (c : Nat) : Nat := if 100000 ≤ c then c else c - 30
def t_isB (c : Nat) : Prop := c = 11 ∨ c = 12 ∨ c = 14 ∨ c = 15 ∨ c = 16 ∨ c = 17 ∨ c = 18
noncomputable def t_au : List (Nat × Nat) → List Nat → List Nat → Bool → Bool → Bool × List (Nat × Nat) × List Nat
  | [], _, out, _, _ => (false, [], out)
  | (c, p) :: l, h, out, true, mn =>
    @ite _ (t_isV c) (Classical.propDecidable _) (t_au l (t_u 7 h (out ++ [t_vc c])).1 (t_u 7 h (out ++ [t_vc c])).2 false mn)
    (if c = 13 ∧ mn = true then (if t_op h = 5 then (false, (c, p) :: l, out) else t_au l (13 :: h) out true mn)
    else if c = 17 then (if t_op h = 5 then (false, (c, p) :: l, out) else t_au l (19 :: h) out true false)
    else if c = 40 then (if t_op h = 5 then (false, (c, p) :: l, out) else t_au l (0 :: h) out true true)
    else (false, (c, p) :: l, out))
  | (c, p) :: l, h, out, false, mn =>
    if c = 42 then (if (t_u 1 h out).1 = [] then (true, l, (t_u 1 h out).2) else (false, (c, p) :: l, out))
    else if c = 41 then (match (t_u 1 h out).1 with
      | [] => (false, (c, p) :: l, out)
      | _ :: h2 => t_au l (t_u 7 h2 (t_u 1 h out).2).1 (t_u 7 h2 (t_u 1 h out).2).2 false mn)
    else @ite _ (t_isB c) (Classical.propDecidable _)
      (if t_rk c = 4 ∧ t_top (t_u (if t_rk c = 4 then 5 else t_rk c) h out).1 = 4 then (false, (c, p) :: l, out)
       else t_au l (c :: (t_u (if t_rk c = 4 then 5 else t_rk c) h out).1) (t_u (if t_rk c = 4 then 5 else t_rk c) h out).2 true (decide (c ≤ 12)))
      (false, (c, p) :: l, out)
