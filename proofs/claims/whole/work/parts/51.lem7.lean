theorem x_ht_app : ∀ (a b : List Nat) (h : Nat), x_ht (a ++ b) h = (x_ht a h).bind (x_ht b) := by
  intro a
  induction a with
  | nil => intro b h; rfl
  | cons c a ih =>
    intro b h
    show x_ht (c :: (a ++ b)) h = _
    unfold x_ht
    by_cases h1 : 100000 ≤ c
    · rw [if_pos h1, if_pos h1]
      by_cases h2 : c < 110000
      · rw [if_pos h2, if_pos h2, ih]
      · rw [if_neg h2, if_neg h2]
        rfl
    · rw [if_neg h1, if_neg h1]
      by_cases h2 : c < 6
      · rw [if_pos h2, if_pos h2, ih]
      · rw [if_neg h2, if_neg h2]
        by_cases h3 : c = 13 ∨ c = 19
        · rw [if_pos h3, if_pos h3]
          by_cases h4 : 1 ≤ h
          · rw [if_pos h4, if_pos h4, ih]
          · rw [if_neg h4, if_neg h4]
            rfl
        · rw [if_neg h3, if_neg h3]
          by_cases h4 : c = 11 ∨ c = 12 ∨ c = 14 ∨ c = 15 ∨ c = 16 ∨ c = 17 ∨ c = 18
          · rw [if_pos h4, if_pos h4]
            by_cases h5 : 2 ≤ h
            · rw [if_pos h5, if_pos h5, ih]
            · rw [if_neg h5, if_neg h5]
              rfl
          · rw [if_neg h4, if_neg h4]
            rfl
def t_nb : List Nat → Nat
  | [] => 0
  | c :: h => if c = 11 ∨ c = 12 ∨ c = 14 ∨ c = 15 ∨ c = 16 ∨ c = 17 ∨ c = 18 then t_nb h + 1 else t_nb h
def t_vh (c : Nat) : Prop := c = 0 ∨ c = 13 ∨ c = 19 ∨ t_isB c
theorem x_ht_B {c d : Nat} (h : t_isB c) (hd : 2 ≤ d) : x_ht [c] d = some (d - 1) := by
  unfold t_isB at h
  unfold x_ht
  rw [if_neg (by omega), if_neg (by omega), if_neg (by omega), if_pos h, if_pos hd]
  rfl
theorem x_ht_U {c d : Nat} (h : c = 13 ∨ c = 19) (hd : 1 ≤ d) : x_ht [c] d = some d := by
  unfold x_ht
  rw [if_neg (by omega), if_neg (by omega), if_pos h, if_pos hd]
  rfl
theorem t_u_ht {r : Nat} (hr : 1 ≤ r) : ∀ (h out : List Nat), (∀ c, c ∈ h → t_vh c) → x_ht out 0 = some (t_nb h + 1) → x_ht (t_u r h out).2 0 = some (t_nb (t_u r h out).1 + 1) := by
  intro h
  induction h with
  | nil => intro out _ hx; exact hx
  | cons c h ih =>
    intro out hv hx
    by_cases q : r ≤ t_rk c
    · rw [t_u_s q]
      have hc0 : ¬ c = 0 := fun z => by rw [z] at q; exact absurd (Nat.le_trans hr q) (by decide)
      refine ih _ (fun a ha => hv a (List.mem_cons_of_mem _ ha)) ?_
      rw [x_ht_app, hx]
      show x_ht [c] (t_nb (c :: h) + 1) = _
      rcases hv c List.mem_cons_self with z | z | z | z
      · exact absurd z hc0
      · rw [x_ht_U (Or.inl z) (by omega)]
        subst z
        rfl
      · rw [x_ht_U (Or.inr z) (by omega)]
        subst z
        rfl
      · have e : t_nb (c :: h) = t_nb h + 1 := by
          unfold t_isB at z
          exact if_pos z
        rw [e, x_ht_B z (by omega)]
        rfl
    · rw [t_u_n q]
      exact hx
def t_okv (c : Nat) : Prop := t_okc c ∧ (100000 ≤ c → c < 110000)
theorem x_ht_V {c d : Nat} (h : t_isV c) (ho : t_okv c) : x_ht [t_vc c] d = some (d + 1) := by
  obtain ⟨h1, h2⟩ := ho
  unfold t_vc
  by_cases q : 100000 ≤ c
  · rw [if_pos q]
    unfold x_ht
    rw [if_pos q, if_pos (h2 q)]
    rfl
  · rw [if_neg q]
    unfold t_isV at h
    unfold x_ht
    rw [if_neg (by omega), if_pos (by omega)]
    rfl
theorem t_nb_0 (c : Nat) (h : List Nat) (hc : c = 0 ∨ c = 13 ∨ c = 19) : t_nb (c :: h) = t_nb h := if_neg (by omega)
theorem t_nb_B {c : Nat} {h : List Nat} (hc : t_isB c) : t_nb (c :: h) = t_nb h + 1 := by
  unfold t_isB at hc
  exact if_pos hc
theorem t_au_ht : ∀ (l : List (Nat × Nat)) (h out : List Nat) (w m : Bool), (∀ q, q ∈ l → t_okv q.1) → (∀ c, c ∈ h → t_vh c) → x_ht out 0 = some (t_nb h + if w = true then 0 else 1) → ∀ l2 cs, t_au l h out w m = (true, l2, cs) → x_ht cs 0 = some 1 := by
  intro l
  induction l with
  | nil =>
    intro h out w m _ _ _ l2 cs he
    unfold t_au at he
    exact absurd (show false = true from congrArg Prod.fst he) (by decide)
  | cons a l ih =>
    obtain ⟨c, p⟩ := a
    intro h out w m hq hv hx l2 cs he
    have hq2 : ∀ q, q ∈ l → t_okv q.1 := fun q z => hq q (List.mem_cons_of_mem _ z)
    have hcv : t_okv c := hq (c, p) List.mem_cons_self
    have hmem : ∀ r h out c, c ∈ (t_u r h out).1 → c ∈ h := fun r h out c z => t_u_mem r h out c z
    have bad : ∀ (x : List (Nat × Nat)) (y : List Nat), (false, x, y) = (true, l2, cs) → False := fun x y z => absurd (show false = true from congrArg Prod.fst z) (by decide)
    cases w with
    | true =>
      by_cases h1 : t_isV c
      · rw [t_au_V h1] at he
        have hy : x_ht (out ++ [t_vc c]) 0 = some (t_nb h + 1) := by
          rw [x_ht_app, hx]
          exact x_ht_V h1 hcv
        exact ih _ _ _ _ hq2 (fun q z => hv q (hmem _ _ _ _ z)) (t_u_ht (by decide) h _ hv hy) l2 cs he
      · by_cases h2 : c = 13 ∧ m = true
        · obtain ⟨rfl, rfl⟩ := h2
          rw [t_au_13] at he
          split at he
          · exact (bad _ _ he).elim
          · exact ih _ _ _ _ hq2 (fun q z => by rcases List.mem_cons.mp z with y | y; exact Or.inr (Or.inl y); exact hv q y) (by rw [t_nb_0 13 h (by omega)]; exact hx) l2 cs he
        · by_cases h3 : c = 17
          · subst h3
            rw [t_au_17] at he
            split at he
            · exact (bad _ _ he).elim
            · exact ih _ _ _ _ hq2 (fun q z => by rcases List.mem_cons.mp z with y | y; exact Or.inr (Or.inr (Or.inl y)); exact hv q y) (by rw [t_nb_0 19 h (by omega)]; exact hx) l2 cs he
          · by_cases h4 : c = 40
            · subst h4
              rw [t_au_40] at he
              split at he
              · exact (bad _ _ he).elim
              · exact ih _ _ _ _ hq2 (fun q z => by rcases List.mem_cons.mp z with y | y; exact Or.inl y; exact hv q y) (by rw [t_nb_0 0 h (by omega)]; exact hx) l2 cs he
            · rw [t_au_f h1 h2 h3 h4] at he
              exact (bad _ _ he).elim
    | false =>
      have hx1 : x_ht out 0 = some (t_nb h + 1) := hx
      by_cases h1 : c = 42
      · subst h1
        rw [t_au_42] at he
        have hu := t_u_ht (r := 1) (by decide) h out hv hx1
        split at he
        · rename_i hn
          rw [hn] at hu
          have : (t_u 1 h out).2 = cs := congrArg (fun z => z.2.2) he
          rw [← this]
          exact hu
        · exact (bad _ _ he).elim
      · by_cases h2 : c = 41
        · subst h2
          have hu := t_u_ht (r := 1) (by decide) h out hv hx1
          cases hz : (t_u 1 h out).1 with
          | nil =>
            rw [t_au_41n hz] at he
            exact (bad _ _ he).elim
          | cons c2 h2 =>
            rw [t_au_41c hz] at he
            rw [hz, t_rk0 (t_u_top 1 h out c2 h2 hz), t_nb_0 0 h2 (by omega)] at hu
            have hv2 : ∀ q, q ∈ h2 → t_vh q := fun q z => hv q (hmem 1 h out q (by rw [hz]; exact List.mem_cons_of_mem _ z))
            exact ih _ _ _ _ hq2 (fun q z => hv2 q (hmem _ _ _ _ z)) (t_u_ht (by decide) h2 _ hv2 hu) l2 cs he
        · by_cases h3 : t_isB c
          · rw [t_au_B h3] at he
            by_cases hb : t_rk c = 4 ∧ t_top (t_u (if t_rk c = 4 then 5 else t_rk c) h out).1 = 4
            · rw [if_pos hb] at he
              exact (bad _ _ he).elim
            · rw [if_neg hb] at he
              have hu := t_u_ht (r := if t_rk c = 4 then 5 else t_rk c) (by have := t_rkB h3; split <;> omega) h out hv hx1
              exact ih _ _ _ _ hq2 (fun q z => by
                rcases List.mem_cons.mp z with y | y
                · exact Or.inr (Or.inr (Or.inr (by rw [y]; exact h3)))
                · exact hv q (hmem _ _ _ _ y)) (by rw [t_nb_B h3]; exact hu) l2 cs he
          · rw [t_au_g h3 h1 h2] at he
            exact (bad _ _ he).elim
theorem t_au_suf : ∀ (l : List (Nat × Nat)) (h out : List Nat) (w m : Bool) l2 cs b, t_au l h out w m = (b, l2, cs) → ∀ q, q ∈ l2 → q ∈ l := by
  intro l
  induction l with
  | nil =>
    intro h out w m l2 cs b he q hq
    unfold t_au at he
    cases he
    exact hq
  | cons a l ih =>
    obtain ⟨c, p⟩ := a
    intro h out w m l2 cs b he q hq
    have hrc : ∀ h out w m, t_au l h out w m = (b, l2, cs) → q ∈ (c, p) :: l := fun h out w m z => List.mem_cons_of_mem _ (ih h out w m l2 cs b z q hq)
    have stay : ∀ y, (false, (c, p) :: l, y) = (b, l2, cs) → q ∈ (c, p) :: l := fun y z => by
      have : (c, p) :: l = l2 := congrArg (fun z => z.2.1) z
      rw [this]; exact hq
    cases w with
    | true =>
      by_cases h1 : t_isV c
      · rw [t_au_V h1] at he; exact hrc _ _ _ _ he
      · by_cases h2 : c = 13 ∧ m = true
        · obtain ⟨rfl, rfl⟩ := h2
          rw [t_au_13] at he
          split at he
          · exact stay _ he
          · exact hrc _ _ _ _ he
        · by_cases h3 : c = 17
          · subst h3
            rw [t_au_17] at he
            split at he
            · exact stay _ he
            · exact hrc _ _ _ _ he
          · by_cases h4 : c = 40
            · subst h4
              rw [t_au_40] at he
              split at he
              · exact stay _ he
              · exact hrc _ _ _ _ he
            · rw [t_au_f h1 h2 h3 h4] at he
              exact stay _ he
    | false =>
      by_cases h1 : c = 42
      · subst h1
        rw [t_au_42] at he
        split at he
        · have : l = l2 := congrArg (fun z => z.2.1) he
          rw [this]; exact List.mem_cons_of_mem _ hq
        · exact stay _ he
      · by_cases h2 : c = 41
        · subst h2
          cases hz : (t_u 1 h out).1 with
          | nil => rw [t_au_41n hz] at he; exact stay _ he
          | cons c2 h2 => rw [t_au_41c hz] at he; exact hrc _ _ _ _ he
        · by_cases h3 : t_isB c
          · rw [t_au_B h3] at he
            by_cases hb : t_rk c = 4 ∧ t_top (t_u (if t_rk c = 4 then 5 else t_rk c) h out).1 = 4
            · rw [if_pos hb] at he; exact stay _ he
            · rw [if_neg hb] at he; exact hrc _ _ _ _ he
          · rw [t_au_g h3 h1 h2] at he
            exact stay _ he
theorem t_val_lt {f : Nat → Int32} {i : Nat} : ∀ n, (∀ j, j < n → ¬ x_in (f (i + j)) 48 57 = 0) → t_val f i n < 10 ^ n := by
  intro n
  induction n with
  | zero => intro _; exact Nat.lt_of_lt_of_le (by decide : 0 < 1) (Nat.le_refl _)
  | succ n ih =>
    intro h
    have a := ih (fun j hj => h j (by omega))
    obtain ⟨b, h1, h2, e⟩ := x_inDig (h n (by omega))
    show 10 * t_val f i n + ((f (i + n)).toNatClampNeg - 48) < 10 ^ (n + 1)
    rw [e, nI_clamp (by omega), Nat.pow_succ]
    omega
theorem t_sg_lt (x : Int32) : t_sg x < 100 := by
  unfold t_sg
  repeat' split
  all_goals omega
theorem t_c_okv (f : Nat → Int32) (e p : Nat) : t_okv (t_c f e p) := by
  refine ⟨t_c_ok f e p, fun h => ?_⟩
  unfold t_c at h ⊢
  by_cases hp : t_pl f e p < e
  · rw [if_pos hp] at h ⊢
    generalize t_pl f e p = i at h ⊢
    unfold t_cd at h ⊢
    by_cases h1 : x_in (f i) 97 122 = 0
    · rw [if_pos h1] at h ⊢
      by_cases h2 : x_in (f i) 48 57 = 0
      · rw [if_pos h2] at h ⊢
        have := t_sg_lt (f i)
        omega
      · rw [if_neg h2] at h ⊢
        by_cases h3 : 4 < t_end f e 48 57 i - i
        · rw [if_pos h3] at h ⊢
          omega
        · rw [if_neg h3] at h ⊢
          have hv := t_val_lt (f := f) (i := i) (t_end f e 48 57 i - i) (fun j hj => t_end_in (e := e) (p := i) (by omega) (by omega))
          have hle : 10 ^ (t_end f e 48 57 i - i) ≤ 10 ^ 4 := Nat.pow_le_pow_right (by decide) (by omega)
          have : (10 : Nat) ^ 4 = 10000 := by decide
          omega
    · rw [if_neg h1] at h ⊢
      exfalso
      by_cases hk : ∃ k, k < 12 ∧ t_is f i (t_end f e 97 122 i - i) (t_wd k) = true
      · obtain ⟨k, hk1, hk2⟩ := hk
        rw [t_kw_yes hk1 hk2] at h
        have := t_kc_ok k hk1
        omega
      · rw [t_kw_no (fun k h1 h2 => hk ⟨k, h1, h2⟩)] at h
        omega
  · rw [if_neg hp] at h ⊢
    omega
theorem t_L_okv {f : Nat → Int32} {e : Nat} : ∀ n p, e - p ≤ n → p ≤ e → ∀ q, q ∈ t_L f e p → t_okv q.1 := by
  intro n
  induction n with
  | zero =>
    intro p hn hp q hq
    obtain ⟨T, h1, h2⟩ := t_Lx (f := f) hp
    have h := t_pl_ge f e p
    have hz : ¬ t_pl f e p < e := by omega
    rw [t_L_e hz hp] at hq
    rcases List.mem_cons.mp hq with z | z
    · rw [z]
      exact ⟨Or.inr (Or.inl (Nat.zero_le _)), fun y => absurd (show 100000 ≤ 0 from y) (by decide)⟩
    · exact absurd z (by simp)
  | succ n ih =>
    intro p hn hp q hq
    by_cases h : t_pl f e p < e
    · rw [t_L_c h] at hq
      rcases List.mem_cons.mp hq with z | z
      · rw [z]
        have := t_c_okv f e p
        unfold t_c at this
        rw [if_pos h] at this
        exact this
      · have h1 := t_pl_ge f e p
        have h2 := t_nx_gt (f := f) h
        exact ih _ (by omega) (t_nx_le h) q z
    · rw [t_L_e h hp] at hq
      rcases List.mem_cons.mp hq with z | z
      · rw [z]
        exact ⟨Or.inr (Or.inl (Nat.zero_le _)), fun y => absurd (show 100000 ≤ 0 from y) (by decide)⟩
      · exact absurd z (by simp)
