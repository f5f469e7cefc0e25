def c_V (U : Nat) : Nat := if U = 7 then 8 else if U = 3 then 4 else U
def c_nx (U c : Nat) (h out : List Nat) : Prop := (U ≤ 6 → ¬ c = 18) ∧ (U ≤ 5 → ¬ c = 16 ∧ ¬ c = 17) ∧ (U ≤ 3 → c = 14 ∨ c = 15 → t_top (t_u 5 h out).1 = 4) ∧ (U ≤ 2 → ¬ c = 12) ∧ (U ≤ 1 → ¬ c = 11)
def c_go (f : Nat → Int32) (e U o p p2 : Nat) (cs : List Nat) : Prop := ∀ (h out : List Nat) (mn : Bool), t_op h = o → t_top h < c_V U → (t_c f e p = 13 → mn = decide (U ≤ 3)) → ∃ h1 out1, t_au (t_L f e p) h out true mn = t_au (t_L f e p2) h1 out1 false false ∧ t_u U h1 out1 = t_u U h (out ++ cs) ∧ c_nx U (t_c f e p2) h1 out1
def c_no (f : Nat → Int32) (e U o p p2 : Nat) : Prop := ∀ (h out : List Nat) (mn : Bool), t_op h = o → t_top h < c_V U → (t_c f e p = 13 → mn = decide (U ≤ 3)) → ∃ o2, t_au (t_L f e p) h out true mn = (false, t_L f e p2, o2)
def c_lp (f : Nat → Int32) (e U W o p p2 : Nat) (cs : List Nat) : Prop := ∀ (h out : List Nat) (mn : Bool), t_op h = o → t_top h < U → (t_c f e p = 13 → mn = decide (U ≤ 3)) → ∃ h1 out1, t_au (t_L f e p) h out true mn = t_au (t_L f e p2) h1 out1 false false ∧ t_u U h1 out1 = (h, out ++ cs) ∧ c_nx W (t_c f e p2) h1 out1
theorem t_u_ps {r c : Nat} {h out : List Nat} (hc : r ≤ t_rk c) : t_u r (c :: h) out = t_u r h (out ++ [c]) := if_pos hc
theorem t_u_ng {r c : Nat} {h out : List Nat} (hc : t_rk c < r) : t_u r (c :: h) out = (c :: h, out) := if_neg (by omega)
theorem t_rk_le (c : Nat) : t_rk c ≤ 7 := by
  unfold t_rk
  repeat' split
  all_goals omega
theorem t_top_lt (h : List Nat) : t_top h < 8 := by
  cases h with
  | nil => exact (by decide : 0 < 8)
  | cons c h =>
    have := t_rk_le c
    show t_rk c < 8
    omega
theorem t_op_B {c : Nat} {h : List Nat} (hB : t_isB c) : t_op (c :: h) = t_op h := by
  unfold t_isB at hB
  show (if c = 0 then t_op h + 1 else if c = 13 then t_op h + 1 else if c = 19 then t_op h + 1 else t_op h) = t_op h
  rw [if_neg (by omega), if_neg (by omega), if_neg (by omega)]
theorem c_nx7 (c : Nat) (h out : List Nat) : c_nx 7 c h out := ⟨fun z => absurd z (by decide), fun z => absurd z (by decide), fun z => absurd z (by decide), fun z => absurd z (by decide), fun z => absurd z (by decide)⟩
theorem c_go_v {f : Nat → Int32} {e o p : Nat} (hp : p ≤ e) (hv : t_isV (t_c f e p)) : c_go f e 7 o p (t_n f e p) [t_vc (t_c f e p)] := by
  intro h out mn _ _ _
  obtain ⟨T, h1, h2⟩ := t_Lx (f := f) hp
  have hn : ¬ t_c f e p = 0 := fun z => by
    rw [z] at hv
    unfold t_isV at hv
    omega
  refine ⟨_, _, ?_, t_u_le (Nat.le_refl 7) h (out ++ [t_vc (t_c f e p)]), c_nx7 _ _ _⟩
  rw [h1, t_au_V hv, (h2 hn).1]
  exact t_au_mn _ _ _ _ _
theorem c_no_5 {f : Nat → Int32} {e p : Nat} (hp : p ≤ e) (hv : ¬ t_isV (t_c f e p)) : c_no f e 7 5 p p := by
  intro h out mn ho _ hm
  obtain ⟨T, h1, _⟩ := t_Lx (f := f) hp
  rw [h1]
  generalize t_c f e p = c at hv hm
  by_cases h2 : c = 17
  · subst h2
    exact ⟨out, by rw [t_au_17, if_pos ho]⟩
  · by_cases h3 : c = 40
    · subst h3
      exact ⟨out, by rw [t_au_40, if_pos ho]⟩
    · refine ⟨out, t_au_f hv (fun z => ?_) h2 h3⟩
      have h5 := hm z.1
      rw [z.2] at h5
      exact absurd h5 (by decide)
theorem c_no_x {f : Nat → Int32} {e o p : Nat} (hp : p ≤ e) (hv : ¬ t_isV (t_c f e p)) (h2 : ¬ t_c f e p = 17) (h3 : ¬ t_c f e p = 40) : c_no f e 7 o p p := by
  intro h out mn ho _ hm
  obtain ⟨T, h1, _⟩ := t_Lx (f := f) hp
  rw [h1]
  refine ⟨out, t_au_f hv (fun z => ?_) h2 h3⟩
  have h5 := hm z.1
  rw [z.2] at h5
  exact absurd h5 (by decide)
theorem c_at {f : Nat → Int32} {e p c : Nat} (hp : p ≤ e) (hc : t_c f e p = c) (h0 : ¬ c = 0) : t_L f e p = (c, t_pl f e p) :: t_L f e (t_n f e p) := by
  obtain ⟨T, h1, h2⟩ := t_Lx (f := f) hp
  rw [h1, hc, (h2 (by rw [hc]; exact h0)).1]
theorem c_go_neg {f : Nat → Int32} {e o p p2 : Nat} {cs : List Nat} (hp : p ≤ e) (hc : t_c f e p = 17) (ho5 : o < 5) (g : c_go f e 7 (o + 1) (t_n f e p) p2 cs) : c_go f e 7 o p p2 (cs ++ [19]) := by
  intro h out mn ho _ hm
  obtain ⟨h1, out1, a1, a2, a3⟩ := g (19 :: h) out false (by rw [t_op_19, ho]) (t_top_lt _) (fun _ => rfl)
  refine ⟨h1, out1, ?_, ?_, c_nx7 _ _ _⟩
  · rw [c_at hp hc (by decide), t_au_17, if_neg (by omega)]
    exact a1
  · rw [a2, t_u_ps (by decide), List.append_assoc]
theorem c_no_neg {f : Nat → Int32} {e o p p2 : Nat} (hp : p ≤ e) (hc : t_c f e p = 17) (ho5 : o < 5) (g : c_no f e 7 (o + 1) (t_n f e p) p2) : c_no f e 7 o p p2 := by
  intro h out mn ho _ hm
  obtain ⟨o2, a1⟩ := g (19 :: h) out false (by rw [t_op_19, ho]) (t_top_lt _) (fun _ => rfl)
  refine ⟨o2, ?_⟩
  rw [c_at hp hc (by decide), t_au_17, if_neg (by omega)]
  exact a1
theorem c_go_par {f : Nat → Int32} {e o p p1 : Nat} {cs : List Nat} (hp : p ≤ e) (hp1 : p1 ≤ e) (hc : t_c f e p = 40) (ho5 : o < 5) (g : c_go f e 1 (o + 1) (t_n f e p) p1 cs) (hc1 : t_c f e p1 = 41) : c_go f e 7 o p (t_n f e p1) cs := by
  intro h out mn ho _ hm
  obtain ⟨h1, out1, a1, a2, a3⟩ := g (0 :: h) out true (by rw [t_op_0, ho]) (show t_rk 0 < 1 by decide) (fun _ => rfl)
  rw [t_u_ng (by decide)] at a2
  refine ⟨(t_u 7 h (out ++ cs)).1, (t_u 7 h (out ++ cs)).2, ?_, t_u_le (Nat.le_refl 7) _ _, c_nx7 _ _ _⟩
  rw [c_at hp hc (by decide), t_au_40, if_neg (by omega), a1, c_at hp1 hc1 (by decide), t_au_41c (c := 0) (h2 := h) (by rw [a2]), a2]
theorem c_no_par {f : Nat → Int32} {e o p p1 : Nat} (hp : p ≤ e) (hc : t_c f e p = 40) (ho5 : o < 5) (g : c_no f e 1 (o + 1) (t_n f e p) p1) : c_no f e 7 o p p1 := by
  intro h out mn ho _ hm
  obtain ⟨o2, a1⟩ := g (0 :: h) out true (by rw [t_op_0, ho]) (show t_rk 0 < 1 by decide) (fun _ => rfl)
  refine ⟨o2, ?_⟩
  rw [c_at hp hc (by decide), t_au_40, if_neg (by omega), a1]
theorem c_stop {f : Nat → Int32} {e p : Nat} {h out : List Nat} (hp : p ≤ e) (hx : c_nx 1 (t_c f e p) h out) (h41 : t_c f e p = 41 → (t_u 1 h out).1 = []) (h42 : t_c f e p = 42 → ¬ (t_u 1 h out).1 = []) : t_au (t_L f e p) h out false false = (false, t_L f e p, out) := by
  obtain ⟨T, h1, _⟩ := t_Lx (f := f) hp
  rw [h1]
  generalize t_c f e p = c at hx h41 h42
  obtain ⟨x1, x2, x3, x4, x5⟩ := hx
  by_cases q1 : c = 41
  · subst q1
    exact t_au_41n (h41 rfl)
  · by_cases q2 : c = 42
    · subst q2
      rw [t_au_42, if_neg (h42 rfl)]
    · by_cases q3 : c = 14 ∨ c = 15
      · have hB : t_isB c := by
          unfold t_isB
          omega
        have hr : t_rk c = 4 := by
          rcases q3 with z | z <;> subst z <;> rfl
        rw [t_au_B hB, if_pos ⟨hr, by rw [if_pos hr]; exact x3 (by decide) q3⟩]
      · have y1 := x1 (by decide)
        have y2 := x2 (by decide)
        have y4 := x4 (by decide)
        have y5 := x5 (by decide)
        exact t_au_g (fun z => by
          unfold t_isB at z
          omega) q2 q1
theorem c_no_cl {f : Nat → Int32} {e o p p1 : Nat} {cs : List Nat} (hp : p ≤ e) (hp1 : p1 ≤ e) (hc : t_c f e p = 40) (ho5 : o < 5) (g : c_go f e 1 (o + 1) (t_n f e p) p1 cs) (hc1 : ¬ t_c f e p1 = 41) : c_no f e 7 o p p1 := by
  intro h out mn ho _ hm
  obtain ⟨h1, out1, a1, a2, a3⟩ := g (0 :: h) out true (by rw [t_op_0, ho]) (show t_rk 0 < 1 by decide) (fun _ => rfl)
  rw [t_u_ng (by decide)] at a2
  refine ⟨out1, ?_⟩
  rw [c_at hp hc (by decide), t_au_40, if_neg (by omega), a1]
  exact c_stop hp1 a3 (fun z => absurd z hc1) (fun _ => by rw [a2]; simp)
theorem c_lp0 {f : Nat → Int32} {e U W o p p2 : Nat} {cs : List Nat} (hU : U ≤ W) (hV : U ≤ c_V W) (hm3 : decide (U ≤ 3) = decide (W ≤ 3)) (g : c_go f e W o p p2 cs) : c_lp f e U W o p p2 cs := by
  intro h out mn ho ht hm
  obtain ⟨h1, out1, a1, a2, a3⟩ := g h out mn ho (by omega) (fun z => (hm z).trans hm3)
  exact ⟨h1, out1, a1, t_u_at hU a2 ht, a3⟩
theorem c_no0 {f : Nat → Int32} {e U W o p p2 : Nat} (hV : c_V U ≤ c_V W) (hm3 : decide (U ≤ 3) = decide (W ≤ 3)) (g : c_no f e W o p p2) : c_no f e U o p p2 := by
  intro h out mn ho ht hm
  exact g h out mn ho (by omega) (fun z => (hm z).trans hm3)
theorem c_bin {c p : Nat} {l : List (Nat × Nat)} {h h1 out out1 : List Nat} {U : Nat} (hB : t_isB c) (hr : t_rk c = U) (h4 : ¬ U = 4) (a : t_u U h1 out1 = (h, out)) : t_au ((c, p) :: l) h1 out1 false false = t_au l (c :: h) out true (decide (c ≤ 12)) := by
  rw [t_au_B hB, hr, if_neg (fun z => h4 z.1), if_neg h4, a]
theorem c_lps {f : Nat → Int32} {e U W o p p1 p2 c : Nat} {cs cs2 : List Nat} (hp1 : p1 ≤ e) (hU : U ≤ W) (hV : U < c_V W) (h4 : ¬ U = 4) (hB : t_isB c) (hr : t_rk c = U) (hm3 : decide (c ≤ 12) = decide (W ≤ 3)) (g1 : c_lp f e U W o p p1 cs) (hc : t_c f e p1 = c) (g2 : c_go f e W o (t_n f e p1) p2 cs2) : c_lp f e U W o p p2 (cs ++ cs2 ++ [c]) := by
  intro h out mn ho ht hm
  obtain ⟨h1, out1, a1, a2, a3⟩ := g1 h out mn ho ht hm
  have h0 : ¬ c = 0 := fun z => by
    rw [z] at hB
    unfold t_isB at hB
    omega
  obtain ⟨h2, out2, b1, b2, b3⟩ := g2 (c :: h) (out ++ cs) (decide (c ≤ 12)) (by rw [t_op_B hB, ho]) (show t_rk c < c_V W by omega) (fun _ => hm3)
  refine ⟨h2, out2, ?_, ?_, b3⟩
  · rw [a1, c_at hp1 hc h0, c_bin hB hr h4 a2]
    exact b1
  · rw [t_u_eq hU b2, t_u_ps (by omega), t_u_id ht]
    simp only [List.append_assoc]
theorem c_lpn {f : Nat → Int32} {e U W o p p1 p2 c : Nat} {cs : List Nat} (hp1 : p1 ≤ e) (hVU : c_V U = U) (hV : U < c_V W) (h4 : ¬ U = 4) (hB : t_isB c) (hr : t_rk c = U) (hm3 : decide (c ≤ 12) = decide (W ≤ 3)) (g1 : c_lp f e U W o p p1 cs) (hc : t_c f e p1 = c) (g2 : c_no f e W o (t_n f e p1) p2) : c_no f e U o p p2 := by
  intro h out mn ho ht hm
  obtain ⟨h1, out1, a1, a2, a3⟩ := g1 h out mn ho (by omega) hm
  have h0 : ¬ c = 0 := fun z => by
    rw [z] at hB
    unfold t_isB at hB
    omega
  obtain ⟨o2, b1⟩ := g2 (c :: h) (out ++ cs) (decide (c ≤ 12)) (by rw [t_op_B hB, ho]) (show t_rk c < c_V W by omega) (fun _ => hm3)
  refine ⟨o2, ?_⟩
  rw [a1, c_at hp1 hc h0, c_bin hB hr h4 a2]
  exact b1
theorem c_lpe {f : Nat → Int32} {e U W o p p2 : Nat} {cs : List Nat} (hVU : c_V U = U) (g : c_lp f e U W o p p2 cs) (hx : ∀ h out, c_nx W (t_c f e p2) h out → c_nx U (t_c f e p2) h out) : c_go f e U o p p2 cs := by
  intro h out mn ho ht hm
  have ht2 : t_top h < U := by omega
  obtain ⟨h1, out1, a1, a2, a3⟩ := g h out mn ho ht2 hm
  exact ⟨h1, out1, a1, by rw [a2, t_u_id ht2], hx _ _ a3⟩
theorem c_nx_6 {c : Nat} (h18 : ¬ c = 18) (h out : List Nat) (_ : c_nx 7 c h out) : c_nx 6 c h out := ⟨fun _ => h18, fun z => absurd z (by decide), fun z => absurd z (by decide), fun z => absurd z (by decide), fun z => absurd z (by decide)⟩
theorem c_nx_5 {c : Nat} (h16 : ¬ c = 16) (h17 : ¬ c = 17) (h out : List Nat) (x : c_nx 6 c h out) : c_nx 5 c h out := ⟨fun _ => x.1 (by decide), fun _ => ⟨h16, h17⟩, fun z => absurd z (by decide), fun z => absurd z (by decide), fun z => absurd z (by decide)⟩
theorem c_nx_2 {c : Nat} (h12 : ¬ c = 12) (h out : List Nat) (x : c_nx 3 c h out) : c_nx 2 c h out := ⟨fun _ => x.1 (by decide), fun _ => x.2.1 (by decide), fun _ => x.2.2.1 (by decide), fun _ => h12, fun z => absurd z (by decide)⟩
theorem c_nx_1 {c : Nat} (h11 : ¬ c = 11) (h out : List Nat) (x : c_nx 2 c h out) : c_nx 1 c h out := ⟨fun _ => x.1 (by decide), fun _ => x.2.1 (by decide), fun _ => x.2.2.1 (by decide), fun _ => x.2.2.2.1 (by decide), fun _ => h11⟩
theorem c_go_not {f : Nat → Int32} {e o p p2 : Nat} {cs : List Nat} (hp : p ≤ e) (hc : t_c f e p = 13) (ho5 : o < 5) (g : c_go f e 3 (o + 1) (t_n f e p) p2 cs) : c_go f e 3 o p p2 (cs ++ [13]) := by
  intro h out mn ho _ hm
  obtain ⟨h1, out1, a1, a2, a3⟩ := g (13 :: h) out true (by rw [t_op_13, ho]) (show t_rk 13 < 4 by decide) (fun _ => rfl)
  have hmn : mn = true := hm hc
  subst hmn
  refine ⟨h1, out1, ?_, ?_, a3⟩
  · rw [c_at hp hc (by decide), t_au_13, if_neg (by omega)]
    exact a1
  · rw [a2, t_u_ps (by decide), List.append_assoc]
theorem c_no_not {f : Nat → Int32} {e o p p2 : Nat} (hp : p ≤ e) (hc : t_c f e p = 13) (ho5 : o < 5) (g : c_no f e 3 (o + 1) (t_n f e p) p2) : c_no f e 3 o p p2 := by
  intro h out mn ho _ hm
  obtain ⟨o2, a1⟩ := g (13 :: h) out true (by rw [t_op_13, ho]) (show t_rk 13 < 4 by decide) (fun _ => rfl)
  have hmn : mn = true := hm hc
  subst hmn
  refine ⟨o2, ?_⟩
  rw [c_at hp hc (by decide), t_au_13, if_neg (by omega)]
  exact a1
theorem c_no_n5 {f : Nat → Int32} {e p : Nat} (hp : p ≤ e) (hc : t_c f e p = 13) : c_no f e 3 5 p p := by
  intro h out mn ho _ hm
  have hmn : mn = true := hm hc
  subst hmn
  refine ⟨out, ?_⟩
  rw [c_at hp hc (by decide), t_au_13, if_pos ho]
theorem c_go_sum {f : Nat → Int32} {e o p p2 : Nat} {cs : List Nat} (hn : ¬ t_c f e p = 13) (g : c_go f e 5 o p p2 cs) (h14 : ¬ t_c f e p2 = 14) (h15 : ¬ t_c f e p2 = 15) : c_go f e 3 o p p2 cs := by
  intro h out mn ho ht hm
  obtain ⟨h1, out1, a1, a2, a3⟩ := g h out mn ho (Nat.lt_trans ht (by decide)) (fun z => absurd z hn)
  exact ⟨h1, out1, a1, t_u_eq (by decide) a2, fun _ => a3.1 (by decide), fun _ => a3.2.1 (by decide), fun _ z => absurd z (by omega), fun z => absurd z (by decide), fun z => absurd z (by decide)⟩
theorem c_no_sum {f : Nat → Int32} {e o p p2 : Nat} (hn : ¬ t_c f e p = 13) (g : c_no f e 5 o p p2) : c_no f e 3 o p p2 := by
  intro h out mn ho ht hm
  exact g h out mn ho (Nat.lt_trans ht (by decide)) (fun z => absurd z hn)
theorem c_cmp {c p : Nat} {l : List (Nat × Nat)} {h h1 out out1 : List Nat} (hc : c = 14 ∨ c = 15) (ht : t_top h < 4) (a : t_u 5 h1 out1 = (h, out)) : t_au ((c, p) :: l) h1 out1 false false = t_au l (c :: h) out true false := by
  have hB : t_isB c := by
    unfold t_isB
    omega
  have hr : t_rk c = 4 := by
    rcases hc with z | z <;> subst z <;> rfl
  rw [t_au_B hB, if_pos hr, a, if_neg (fun z => by
    have z2 : t_top h = 4 := z.2
    omega), decide_eq_false (by omega)]
theorem c_go_cmp {f : Nat → Int32} {e o p p1 p2 c : Nat} {cs cs2 : List Nat} (hp1 : p1 ≤ e) (hn : ¬ t_c f e p = 13) (g1 : c_go f e 5 o p p1 cs) (hc : t_c f e p1 = c) (hcc : c = 14 ∨ c = 15) (g2 : c_go f e 5 o (t_n f e p1) p2 cs2) : c_go f e 3 o p p2 (cs ++ cs2 ++ [c]) := by
  intro h out mn ho ht hm
  have ht4 : t_top h < 4 := ht
  have hB : t_isB c := by
    unfold t_isB
    omega
  have hr : t_rk c = 4 := by
    rcases hcc with z | z <;> subst z <;> rfl
  obtain ⟨h1, out1, a1, a2, a3⟩ := g1 h out mn ho (Nat.lt_trans ht (by decide)) (fun z => absurd z hn)
  have a4 := t_u_at (Nat.le_refl 5) a2 (by omega)
  obtain ⟨h2, out2, b1, b2, b3⟩ := g2 (c :: h) (out ++ cs) false (by rw [t_op_B hB, ho]) (show t_rk c < 5 by omega) (fun _ => rfl)
  refine ⟨h2, out2, ?_, ?_, fun _ => b3.1 (by decide), fun _ => b3.2.1 (by decide), fun _ _ => ?_, fun z => absurd z (by decide), fun z => absurd z (by decide)⟩
  · rw [a1, c_at hp1 hc (by omega), c_cmp hcc ht4 a4]
    exact b1
  · rw [t_u_eq (by decide : 3 ≤ 5) b2, t_u_ps (by omega)]
    simp only [List.append_assoc]
  · rw [b2, t_u_ng (by omega)]
    exact hr
theorem c_no_cmp {f : Nat → Int32} {e o p p1 p2 c : Nat} {cs : List Nat} (hp1 : p1 ≤ e) (hn : ¬ t_c f e p = 13) (g1 : c_go f e 5 o p p1 cs) (hc : t_c f e p1 = c) (hcc : c = 14 ∨ c = 15) (g2 : c_no f e 5 o (t_n f e p1) p2) : c_no f e 3 o p p2 := by
  intro h out mn ho ht hm
  have ht4 : t_top h < 4 := ht
  have hB : t_isB c := by
    unfold t_isB
    omega
  have hr : t_rk c = 4 := by
    rcases hcc with z | z <;> subst z <;> rfl
  obtain ⟨h1, out1, a1, a2, a3⟩ := g1 h out mn ho (Nat.lt_trans ht (by decide)) (fun z => absurd z hn)
  have a4 := t_u_at (Nat.le_refl 5) a2 (by omega)
  obtain ⟨o2, b1⟩ := g2 (c :: h) (out ++ cs) false (by rw [t_op_B hB, ho]) (show t_rk c < 5 by omega) (fun _ => rfl)
  refine ⟨o2, ?_⟩
  rw [a1, c_at hp1 hc (by omega), c_cmp hcc ht4 a4]
  exact b1
