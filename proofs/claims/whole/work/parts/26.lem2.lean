theorem G_getMP {E : gE} {cc : ByteArray} {nL : Nat} {ret : Option FieldType} {d : Nat} {Q : State → Prop} {pc : Nat} {L : List (Option Value)} {st : List Value} {σ : gS} (C : gCx SC E RX10 cc nL ret d) (pc' : Nat) (hd : decode cc pc = .ok (.getstatic 149, 3)) (hp : pc + 3 = pc') (kk : GW SC E Q pc' L (.ref (e_z E 6) :: st) σ) : GW SC E Q pc L st σ := by
  subst hp
  have J : SCJ (e_z E) (gA SC (e_ad E)) (e_s E) (e_s E).heap := C.2.2.2.2.2.2.2.2.2.1
  exact fun H locs ls hP hS hl hz => va_gets C.1 C.2.1 J.2.2.2.1 hS C.2.2.2.1 (C.2.2.2.2.1 _ w_558) (fun _ h => h) hd (kk H locs ls hP hS hl hz)
theorem G_mpld {E : gE} {own : String} {cc : ByteArray} {nL : Nat} {ret : Option FieldType} {d : Nat} {Q : State → Prop} {pc : Nat} {L : List (Option Value)} {st : List Value} {σ : gS} (C : gCx SC E own cc nL ret d) (pc' : Nat) {i : Int32} (j : Nat) (hi : i = nI j) (hj : j < 4) (hd : decode cc pc = .ok (.iaload, 1)) (hp : pc + 1 = pc') (kk : ∀ v : Int32, v = mostPut j → GW SC E Q pc' L (.int v :: st) σ) : GW SC E Q pc L (.int i :: .ref (e_z E 6) :: st) σ := by
  subst hp
  subst hi
  have J : SCJ (e_z E) (gA SC (e_ad E)) (e_s E) (e_s E).heap := C.2.2.2.2.2.2.2.2.2.1
  exact fun H locs ls hP hS hl hz => va_ti C.1 C.2.1 J.2.2.2.2.1 hS (vp_in_nI hj (by decide)) (by rw [nI_clamp (by omega)]) hd (kk _ rfl H locs ls hP hS hl hz)
theorem RC_up {TX : gTX} {nT n l l' : Nat} {P P' B s s' : gS} (h : Rc TX nT n l P B s) (hI : cI TX nT n l' 45 P' s') (f : Fr (mW 45) s s') (h6 : P' 6 = P 6) (h7 : P' 7 = P 7) (he : eI P') : RC TX P' B s' := ⟨nT, n, l', Rc_now h hI f (Nat.le_refl n) (fun j _ => ⟨by rw [h6], by rw [h7]⟩) he⟩
theorem eI_up {P : gS} {t : Nat} {v : Int32} (h : eI P) (hv : ∃ e, e ≤ 99 ∧ v = nI e) : eI (g_up P 1 t v) := by
  intro q hq
  rw [g_up_sj]
  split
  · exact hv
  · exact h q hq
theorem eI_of {P P' : gS} (h : eI P) (e : P' 1 = P 1) : eI P' := by
  intro q hq
  rw [e]
  exact h q hq
theorem cB_add {σ : gS} {tn : Nat} {v : Int32} (h : σ 3 1 = nI tn) (ht : tn < 160) : cB (g_up (g_up σ 4 tn v) 3 1 (σ 3 1 + 1)) = s_add (cB σ) v := by
  have e1 : σ 3 1 + 1 = nI (tn + 1) := by rw [h, show (1 : Int32) = nI 1 from rfl, nI_add]
  have b01 : cB σ 0 1 = σ 3 1 := rfl
  unfold s_add
  rw [b01, h, nI_clamp (by omega)]
  have e2 : nI tn + 1 = nI (tn + 1) := by rw [show (1 : Int32) = nI 1 from rfl, nI_add]
  rw [e2]
  have a0 : g_up (g_up σ 4 tn v) 3 1 (nI (tn + 1)) 0 = σ 0 := by rw [g_up_n (by decide), g_up_n (by decide)]
  have a3 : ∀ j, g_up (g_up σ 4 tn v) 3 1 (nI (tn + 1)) 3 j = if j = 1 then nI (tn + 1) else σ 3 j := fun j => by rw [g_up_sj, g_up_n (by decide)]
  have a4 : ∀ j, g_up (g_up σ 4 tn v) 3 1 (nI (tn + 1)) 4 j = if j = tn then v else σ 4 j := fun j => by rw [g_up_n (by decide), g_up_sj]
  have ao : ∀ k, 4 < k → g_up (g_up σ 4 tn v) 3 1 (nI (tn + 1)) k = σ k := fun k hk => by rw [g_up_n (by omega), g_up_n (by omega)]
  have ac : cv (g_up (g_up σ 4 tn v) 3 1 (nI (tn + 1))) 63 = cv σ 63 := cv_fr (m := fun k => k ≤ 4) (fun k hk => ao k (by omega)) (fun i _ => by omega)
  generalize g_up (g_up σ 4 tn v) 3 1 (nI (tn + 1)) = τ at a0 a3 a4 ao ac
  funext a j
  rcases a with _ | _ | _ | _ | _ | _ | _ | _ | a
  · rw [g_up_sj, g_up_n (by decide)]
    show (if j = 0 then τ 0 8 else if j = 1 then τ 3 1 else if j = 2 then τ 0 7 else 0) = if j = 1 then nI (tn + 1) else (if j = 0 then σ 0 8 else if j = 1 then σ 3 1 else if j = 2 then σ 0 7 else 0)
    rw [a0, a3, if_pos rfl]
    by_cases h0 : j = 0
    · simp [h0]
    · by_cases h1 : j = 1 <;> simp [h0, h1]
  · rw [g_up_n (by decide), g_up_sj]
    show (if j < (τ 3 1).toNatClampNeg then τ 4 j else 0) = if j = tn then v else (if j < (σ 3 1).toNatClampNeg then σ 4 j else 0)
    rw [a3, if_pos rfl, a4, h, nI_clamp (by omega), nI_clamp (by omega)]
    by_cases h0 : j = tn
    · rw [if_pos h0, if_pos (by omega), if_pos h0]
    · rw [if_neg h0, if_neg h0]
      by_cases h1 : j < tn
      · rw [if_pos h1, if_pos (by omega)]
      · rw [if_neg h1, if_neg (by omega)]
  · rw [g_up_n (by decide), g_up_n (by decide)]
    show (if j < 4 then τ (30 + 2 * j) 1 else 0) = if j < 4 then σ (30 + 2 * j) 1 else 0
    rw [ao _ (by omega)]
  · rw [g_up_n (by decide), g_up_n (by decide)]
    show (if j < 4 then τ (30 + 2 * j) 2 else 0) = if j < 4 then σ (30 + 2 * j) 2 else 0
    rw [ao _ (by omega)]
  · rw [g_up_n (by decide), g_up_n (by decide)]
    show (if j < 40 then τ 31 j else 0) = if j < 40 then σ 31 j else 0
    rw [ao _ (by omega)]
  · rw [g_up_n (by decide), g_up_n (by decide)]
    show (if j < 40 then τ 33 j else 0) = if j < 40 then σ 33 j else 0
    rw [ao _ (by omega)]
  · rw [g_up_n (by decide), g_up_n (by decide)]
    show (if j < 40 then τ 35 j else 0) = if j < 40 then σ 35 j else 0
    rw [ao _ (by omega)]
  · rw [g_up_n (by decide), g_up_n (by decide)]
    show (if j < 40 then τ 37 j else 0) = if j < 40 then σ 37 j else 0
    rw [ao _ (by omega)]
  · rw [g_up_n (by omega), g_up_n (by omega)]
    show (if τ 0 7 = 0 then fun _ => 0 else cv τ 63 a) j = (if σ 0 7 = 0 then fun _ => 0 else cv σ 63 a) j
    rw [a0, ac]
theorem bI_add {TX : gTX} {nT n : Nat} {P B : gS} (h : bI TX nT n P B) {tn : Nat} (ht : B 0 1 = nI tn) (hl : tn < 160) {v : Int32} (hv : ∃ m, m < 256 ∧ v = nI m) : bI TX nT n P (s_add B v) := by
  obtain ⟨b1, b2, b3, b4, b5, b6, b7⟩ := h
  have z0 : ∀ j, s_add B v 0 j = if j = 1 then B 0 1 + 1 else B 0 j := fun j => by
    unfold s_add
    rw [g_up_sj, g_up_n (by decide)]
  have z1 : ∀ j, s_add B v 1 j = if j = (B 0 1).toNatClampNeg then v else B 1 j := fun j => by
    unfold s_add
    rw [g_up_n (by decide), g_up_sj]
  have zo : ∀ a, 1 < a → s_add B v a = B a := fun a ha => by
    unfold s_add
    rw [g_up_n (by omega), g_up_n (by omega)]
  refine ⟨?_, ⟨tn + 1, by omega, ?_⟩, fun j => ?_, ?_, fun s hs => ?_, b6, ?_⟩
  · rw [z0]
    exact b1
  · rw [z0, if_pos rfl, ht, show (1 : Int32) = nI 1 from rfl, nI_add]
  · rw [z1]
    split
    · exact hv
    · exact b3 j
  · rw [z0]
    exact b4
  · have := b5 s hs
    unfold shI at this ⊢
    rw [zo 2 (by decide), zo 3 (by decide)]
    exact this
  · rw [z0]
    have e : (fun a => s_add B v (a + 8)) = fun a => B (a + 8) := by
      funext a
      exact zo _ (by omega)
    rw [e]
    exact b7
theorem Rc_add {TX : gTX} {nT n l : Nat} {P B s s' : gS} (h : Rc TX nT n l P B s) {tn : Nat} (ht : B 0 1 = nI tn) (hl : tn < 160) {v : Int32} (hv : ∃ m, m < 256 ∧ v = nI m) (e : s' = g_up (g_up s 4 tn v) 3 1 (s 3 1 + 1)) : Rc TX nT n l P (s_add B v) s' := by
  obtain ⟨h1, h2, h3⟩ := h
  have hs : s 3 1 = nI tn := by
    rw [← ht, ← h2]
    rfl
  refine ⟨?_, ?_, bI_add h3 ht hl hv⟩
  · obtain ⟨c1, c2, c3, c4⟩ := h1
    have fr : Fr (fun k => k = 3 ∨ k = 4) s s' := fun k hk => by rw [e, g_up_n (by omega), g_up_n (by omega)]
    refine ⟨c1, ?_, c3, fun t ht => cT_fr fr (by omega) (by omega) (c4 t ht)⟩
    rw [cv_fr fr (fun i _ => by omega)]
    exact c2
  · rw [e, cB_add hs hl, h2]
theorem s_feed01 (B : gS) (a b c e f : Int32) {tn : Nat} (ht : B 0 1 = nI tn) : ∀ k, s_feedN B a b c e f k 0 1 = nI (tn + k) := by
  intro k
  induction k with
  | zero => exact ht
  | succ k ih =>
    show s_add (s_feedN B a b c e f k) _ 0 1 = _
    unfold s_add
    rw [g_up_sj, if_pos rfl, ih, show (1 : Int32) = nI 1 from rfl, nI_add, Nat.add_assoc]
