theorem st_cls {args : Array Value} {s : State} (hts : ∀ w ∈ gTB, w.before args s = true) : ∃ D : va_G, ∀ (c : Nat) (q : vw_C), vwCl[c]? = some q → u_Kn s q.1 q.2.1 q.2.2 (D.1 c) (D.2 c) := by
  obtain ⟨c0, i0, h0⟩ := u_known (C := RX0) (T := TX0) (N := 0) (n := 0) hts (fun _ h => absurd h List.not_mem_nil) (hts _ w_104)
  obtain ⟨c1, i1, h1⟩ := u_known (C := RX1) (T := TX1) (N := 0) (n := 0) hts (fun _ h => absurd h List.not_mem_nil) (hts _ w_118)
  obtain ⟨c2, i2, h2⟩ := u_known (C := RX2) (T := TX2) (N := 0) (n := 0) hts (fun _ h => absurd h List.not_mem_nil) (hts _ w_132)
  obtain ⟨c3, i3, h3⟩ := u_known (C := RX3) (T := TX3) (N := 0) (n := 0) hts (fun _ h => absurd h List.not_mem_nil) (hts _ w_111)
  obtain ⟨c4, i4, h4⟩ := u_known (C := RX4) (T := TX4) (N := 3) (n := 3) hts inX4 (hts _ w_84)
  obtain ⟨c5, i5, h5⟩ := u_known (C := RX5) (T := TX5) (N := 0) (n := 0) hts (fun _ h => absurd h List.not_mem_nil) (hts _ w_139)
  obtain ⟨c6, i6, h6⟩ := u_known (C := RX6) (T := TX6) (N := 7) (n := 7) hts inX6 (hts _ w_35)
  obtain ⟨c7, i7, h7⟩ := u_known (C := RX7) (T := TX7) (N := 4) (n := 4) hts inX7 (hts _ w_64)
  obtain ⟨c8, i8, h8⟩ := u_known (C := RX8) (T := TX8) (N := 0) (n := 0) hts (fun _ h => absurd h List.not_mem_nil) (hts _ w_125)
  obtain ⟨c9, i9, h9⟩ := u_known (C := RX9) (T := TX9) (N := 15) (n := 15) hts inX9 (hts _ w_146)
  obtain ⟨c10, i10, h10⟩ := u_known (C := RX10) (T := TX10) (N := 9) (n := 9) hts inX10 (hts _ w_23)
  obtain ⟨c11, i11, h11⟩ := u_known (C := RX11) (T := TX11) (N := 32) (n := 32) hts inX11 (hts _ w_821)
  have h : ∀ k : Nat, ∃ z : ClassId × (Nat → Nat), ∀ q : vw_C, vwCl[k]? = some q → u_Kn s q.1 q.2.1 q.2.2 z.1 z.2 := by
    intro k
    match k with
    | 0 => exact ⟨(c0, i0), fun q hq => by cases hq; exact h0⟩
    | 1 => exact ⟨(c1, i1), fun q hq => by cases hq; exact h1⟩
    | 2 => exact ⟨(c2, i2), fun q hq => by cases hq; exact h2⟩
    | 3 => exact ⟨(c3, i3), fun q hq => by cases hq; exact h3⟩
    | 4 => exact ⟨(c4, i4), fun q hq => by cases hq; exact h4⟩
    | 5 => exact ⟨(c5, i5), fun q hq => by cases hq; exact h5⟩
    | 6 => exact ⟨(c6, i6), fun q hq => by cases hq; exact h6⟩
    | 7 => exact ⟨(c7, i7), fun q hq => by cases hq; exact h7⟩
    | 8 => exact ⟨(c8, i8), fun q hq => by cases hq; exact h8⟩
    | 9 => exact ⟨(c9, i9), fun q hq => by cases hq; exact h9⟩
    | 10 => exact ⟨(c10, i10), fun q hq => by cases hq; exact h10⟩
    | 11 => exact ⟨(c11, i11), fun q hq => by cases hq; exact h11⟩
    | k + 12 => exact ⟨(c0, i0), fun q hq => absurd hq (by simp [vwCl])⟩
  obtain ⟨f, hf⟩ := Classical.axiomOfChoice h
  exact ⟨(fun k => (f k).1, fun k => (f k).2), fun c q hq => hf c q hq⟩
theorem st_arr {args : Array Value} {s : State} (hts : ∀ w ∈ gTB, w.before args s = true) (h7 : va_AO RX7 s) (h4 : va_AO RX4 s) (h0 : va_AO RX0 s) : ∃ cA : Nat → ClassId, ∀ (k : Nat) (q : ClassId × FieldType), (gT cA)[k]? = some q → ArrOfT s q.1 q.2 ∧ va_RA s q.1 q.2 := by
  obtain ⟨a0, k0, p0, x1, x2, x3⟩ := Cond.arrayClass_spec (hts _ w_63a)
  obtain ⟨p7, a7, k7, y1, y2, y3, y4, y5⟩ := Cond.arrayOver_spec h7
  obtain ⟨p4, a4, k4, z1, z2, z3, z4, z5⟩ := Cond.arrayOver_spec h4
  obtain ⟨p9, a9, k9, v1, v2, v3, v4, v5⟩ := Cond.arrayOver_spec h0
  refine ⟨fun t => if t = 0 then a0 else if t = 1 then a7 else if t = 2 then a4 else a9, fun k q hq => ?_⟩
  match k, hq with
  | 0, hq => cases hq; exact ⟨fun n z => ⟨fun k h => (by cases h), k0, x2, p0, x3⟩, x1⟩
  | 1, hq => cases hq; exact ⟨fun n z => ⟨fun k h => (by cases h), k7, y3, p7, y4⟩, ⟨k7, p7, y3, y4, y1, y5⟩⟩
  | 2, hq => cases hq; exact ⟨fun n z => ⟨fun k h => (by cases h), k4, z3, p4, z4⟩, ⟨k4, p4, z3, z4, z1, z5⟩⟩
  | 3, hq => cases hq; exact ⟨fun n z => ⟨fun k h => (by cases h), k9, v3, p9, v4⟩, ⟨k9, p9, v3, v4, v1, v5⟩⟩
  | k + 4, hq => exact absurd hq (by simp [gT])
theorem st_nest {args : Array Value} {s : State} (hts : ∀ w ∈ lw_tbl, w.before args s = true) : ∀ w ∈ gNB, va_Nw w s := by
  intro w hw
  have h1 := List.mem_filter.mp hw
  have g := h1.2
  have hb := hts w h1.1
  cases w <;> first | exact va_Nw.of rfl hb | (simp [isNest] at g)
theorem st_cast {args : Array Value} {s : State} (hts : ∀ w ∈ lw_tbl, w.before args s = true) : ∀ w ∈ gCB, va_Nw w s := by
  intro w hw
  have h1 := List.mem_filter.mp hw
  have g := h1.2
  have hb := hts w h1.1
  cases w <;> first | exact va_Nw.of rfl hb | (simp [isCst] at g)
theorem st_kJ {args : Array Value} {s : State} (hts : ∀ w ∈ lw_tbl, w.before args s = true) : kJ s := ⟨st_nest hts, st_cast hts, va_AO.of (hts _ w_31a), va_AO.of (hts _ w_33a), va_AO.of (hts _ w_103a)⟩
def tmS : Nat → Term := fun i => if i = 0 then .string "CrierOfBorough" 67 else if i = 1 then .string "CrierOfBorough$Tape" 95 else .string "CrierOfBorough$Tape" 88
def gvC : List Cond := flatC (Jvm.Cond.and given_1 narrow_1)
set_option maxRecDepth 100000 in
theorem fl_ex : ∀ i, i < 3 → Cond.exactly (tmS i) "java/lang/String" ∈ gvC := by decide +kernel
set_option maxRecDepth 100000 in
theorem fl_co : ∀ i, i < 3 → Cond.eq (.field (tmS i) "java/lang/String" "coder" "B") (.int 0) ∈ gvC := by decide +kernel
set_option maxRecDepth 100000 in
theorem fl_ar : ∀ i, i < 3 → Cond.arrayOf (.field (tmS i) "java/lang/String" "value" "[B") .byte ∈ gvC := by decide +kernel
set_option maxRecDepth 100000 in
theorem fl_le : ∀ i, i < 3 → Cond.eq (.length (.field (tmS i) "java/lang/String" "value" "[B")) (.int (Int32.ofNat (sLen.getD i 0))) ∈ gvC := by decide +kernel
set_option maxRecDepth 100000 in
theorem fl_el : ∀ i, i < 3 → ∀ j, j < sLen.getD i 0 → Cond.eq (.elem (.field (tmS i) "java/lang/String" "value" "[B") (.int (Int32.ofNat j))) (.int ((sByt.getD i []).getD j 0)) ∈ gvC := by decide +kernel
set_option maxRecDepth 100000 in
theorem fl_ne : ∀ i, i < 3 → ∀ j, j < 3 → i ≠ j → Cond.not (Cond.eq (tmS i) (tmS j)) ∈ gvC ∨ Cond.not (Cond.eq (tmS j) (tmS i)) ∈ gvC := by decide +kernel
set_option maxRecDepth 100000 in
theorem fl_cs : Cond.eq (.static "java/lang/String" "COMPACT_STRINGS" "Z") (.int 1) ∈ gvC := by decide +kernel
set_option maxRecDepth 100000 in
theorem fl_si : Cond.isRef (.static "jdk/internal/util/Preconditions" "SIOOBE_FORMATTER" "Ljava/util/function/BiFunction;") ∈ gvC := by decide +kernel
set_option maxRecDepth 100000 in
theorem fl_ma : Cond.arrayOf (.static "CrierOfBorough" "MOST_PUT" "[I") .int ∈ gvC := by decide +kernel
set_option maxRecDepth 100000 in
theorem fl_ml : Cond.eq (.length (.static "CrierOfBorough" "MOST_PUT" "[I")) (.int (Int32.ofNat 4)) ∈ gvC := by decide +kernel
set_option maxRecDepth 100000 in
theorem fl_me : ∀ j, j < 4 → Cond.eq (.elem (.static "CrierOfBorough" "MOST_PUT" "[I") (.int (Int32.ofNat j))) (.int (mostPut j)) ∈ gvC := by decide +kernel
theorem vk_S_cg {N : Nat} {len : List Nat} {byt : List (List Int32)} {k1 v1 k2 v2 : Nat → Nat} {A : Nat → Prop} {U : State} {H : Heap} (h : vk_S N len byt k1 v1 A U H) (hk : ∀ i, i < N → k2 i = k1 i) (hv : ∀ i, i < N → v2 i = v1 i) : vk_S N len byt k2 v2 A U H := by
  refine ⟨fun i hi => ?_, fun i j hi hj e => h.2 i j hi hj (by rw [← hk i hi, ← hk j hj]; exact e)⟩
  rw [hk i hi, hv i hi]
  exact h.1 i hi
theorem st_SCJ {args : Array Value} {s : State} {A : Nat → Prop} (hts : ∀ w ∈ lw_tbl, w.before args s = true) (hgv : (Jvm.Cond.and given_1 narrow_1).before args s = true) (hA : ∀ a : Nat, a < s.heap.size → ¬ A a) : ∃ z : Nat → Nat, SCJ z A s s.heap := by
  have hs : ∀ c ∈ gvC, c.before args s = true := flat_of_before _ hgv
  have hg : ∀ w ∈ gTB, w.before args s = true := fun w hw => hts w (gTB_good w hw).1
  obtain ⟨adK, adV, hS, hev⟩ := vk_Sof (N := 3) (tm := tmS) (len := sLen) (byt := sByt) (A := A) (by decide) (fun i hi => hs _ (fl_ex i hi)) (fun i hi => hs _ (fl_co i hi)) (fun i hi => hs _ (fl_ar i hi)) (fun i hi => hs _ (fl_le i hi)) (fun i hi j hj => hs _ (fl_el i hi j hj)) (fun i j hi hj hij => (fl_ne i hi j hj hij).imp (fun h => hs _ h) (fun h => hs _ h)) hA
  obtain ⟨t, ht, hT⟩ := va_Tof (tm := .static "CrierOfBorough" "MOST_PUT" "[I") (ty := .int) (N := 4) (f := fun j => .int (mostPut j)) (A := A) (by decide) (hs _ fl_ma) (va_eqt (hs _ fl_ml)) (fun j hj => va_eqt (hs _ (fl_me j hj))) hA
  have e0 := hev 0 (by decide)
  have e1 := hev 1 (by decide)
  have e2 := hev 2 (by decide)
  refine ⟨fun i => if i < 3 then adK i else if i < 6 then adV (i - 3) else t, vk_S_cg hS (fun i hi => if_pos hi) (fun i hi => ?_), va_Zof (hts _ w_219) (hg _ w_12) (va_eqi (hs _ fl_cs)) hA, va_Zqof (hts _ w_235) (hg _ w_14) (hs _ fl_si) hA, va_Zref (hts _ w_559) (hg _ w_1) ht hA, hT, ⟨vk_R.of (hts _ w_209) e0, vk_R.of (hts _ w_285) e1, vk_R.of (hts _ w_300) e2⟩, st_nest hts⟩
  show (if i + 3 < 3 then adK (i + 3) else if i + 3 < 6 then adV (i + 3 - 3) else t) = adV i
  rw [if_neg (by omega), if_pos (by omega), Nat.add_sub_cancel]
