def kv (τ : gS) : gS := fun a => match a with
  | 0 => fun j => if j = 0 then τ 8 24 else if j = 1 then τ 8 25 else if j = 2 then τ 8 26 else if j = 3 then τ 9 1 else if j = 4 then τ 9 0 else 0
  | 1 => fun j => if j < 10 then τ 8 (27 + j) else 0
  | 2 => fun j => if j < 6 then τ 8 (4 * j) else 0
  | 3 => fun j => if j < 6 then τ 8 (4 * j + 1) else 0
  | 4 => fun j => if j < 6 then τ 8 (4 * j + 2) else 0
  | 5 => fun j => if j < 6 then τ 8 (4 * j + 3) else 0
  | 6 => fun j => if j < (τ 9 0).toNatClampNeg then τ 1 j else 0
  | 7 => fun j => if j < (τ 9 0).toNatClampNeg then τ 2 j else 0
  | _ => fun _ => 0
def cB (σ : gS) : gS := fun a => match a with
  | 0 => fun j => if j = 0 then σ 0 8 else if j = 1 then σ 3 1 else if j = 2 then σ 0 7 else 0
  | 1 => fun j => if j < (σ 3 1).toNatClampNeg then σ 4 j else 0
  | 2 => fun j => if j < 4 then σ (30 + 2 * j) 1 else 0
  | 3 => fun j => if j < 4 then σ (30 + 2 * j) 2 else 0
  | 4 => fun j => if j < 40 then σ 31 j else 0
  | 5 => fun j => if j < 40 then σ 33 j else 0
  | 6 => fun j => if j < 40 then σ 35 j else 0
  | 7 => fun j => if j < 40 then σ 37 j else 0
  | a + 8 => if σ 0 7 = 0 then fun _ => 0 else cv σ 63 a
def mB (τ : gS) : gS := fun a => match a with
  | 0 => fun j => if j = 0 then τ 0 9 else if j = 1 then τ 0 6 else if j = 2 then τ 0 11 else 0
  | 1 => fun j => if j < (τ 0 6).toNatClampNeg then τ 5 j else 0
  | 2 => fun j => if j < 4 then τ 10 j else 0
  | 3 => fun j => if j < 4 then τ 11 j else 0
  | 4 => fun j => if j < 40 then τ 12 (40 * 0 + j) else 0
  | 5 => fun j => if j < 40 then τ 12 (40 * 1 + j) else 0
  | 6 => fun j => if j < 40 then τ 12 (40 * 2 + j) else 0
  | 7 => fun j => if j < 40 then τ 12 (40 * 3 + j) else 0
  | a + 8 => if τ 0 11 = 0 then fun _ => 0 else kv τ a
def eI (P : gS) : Prop := ∀ t, t < 10 → ∃ e, e ≤ 99 ∧ P 1 t = nI e
def kI (TX : gTX) (nT n : Nat) (P K : gS) : Prop := ∃ nK lK, pI TX nT nK lK K ∧ nK ≤ n ∧ (∀ j, j < nK → K 6 j = P 6 j ∧ K 7 j = P 7 j) ∧ eI K
def shI (B : gS) (s : Nat) : Prop := (B 2 s = -1 ∧ B 3 s = 0) ∨ ∃ so z, so < 3 ∧ z ≤ 40 ∧ B 2 s = nI so ∧ B 3 s = nI z
def bI (TX : gTX) (nT n : Nat) (P B : gS) : Prop := B 0 0 = nI nT ∧ (∃ tn, tn ≤ 160 ∧ B 0 1 = nI tn) ∧ (∀ j, ∃ v, v < 256 ∧ B 1 j = nI v) ∧ (B 0 2 = 0 ∨ B 0 2 = 1) ∧ (∀ s, s < 4 → shI B s) ∧ eI P ∧ (B 0 2 = 1 → kI TX nT n P (fun a => B (a + 8)))
def Rc (TX : gTX) (nT n l : Nat) (P B σ : gS) : Prop := cI TX nT n l 45 P σ ∧ cB σ = B ∧ bI TX nT n P B
def Rm (TX : gTX) (nT n l : Nat) (P B τ : gS) : Prop := mI TX nT n l P τ ∧ mB τ = B ∧ bI TX nT n P B
def RC (TX : gTX) (P B σ : gS) : Prop := ∃ nT n l, Rc TX nT n l P B σ
def RM (TX : gTX) (P B τ : gS) : Prop := ∃ nT n l, Rm TX nT n l P B τ
def mQ (k : Nat) : Prop := mW 54 k ∨ k = 5
theorem Fr.Q {a b : gS} (h : Fr (mW 54) a b) : Fr mQ a b := h.mono (fun _ hk => Or.inl hk)
theorem Fr.SQ {a b : gS} (h : Fr mS a b) : Fr mQ a b := h.mono (fun _ hk => Or.inl (Or.inl hk))
theorem Fr.UQ {a b : gS} (h : Fr (mU 54) a b) : Fr mQ a b := h.mono (fun k hk => by unfold mU at hk; exact Or.inl (Or.inr ⟨by omega, by omega⟩))
theorem mQ_w {i : Nat} (h : i < 9) : mQ (54 + i) := Or.inl (Or.inr ⟨by omega, by omega⟩)
theorem cI_q {TX : gTX} {nT n l : Nat} {P σ σ' : gS} (hI : cI TX nT n l 45 P σ) (h : Fr mQ σ σ') : cI TX nT n l 45 P σ' := by
  obtain ⟨h1, h2, h3, h4⟩ := hI
  refine ⟨h1, ?_, h3, fun t ht => cT_fr h ?_ ?_ (h4 t ht)⟩
  · rw [cv_fr h (fun i hi => by unfold mQ mW mS; omega)]
    exact h2
  · have := Nat.lt_of_lt_of_le ht h3.2.2.2.2.1
    unfold mQ mW mS
    omega
  · have := Nat.lt_of_lt_of_le ht h3.2.2.2.2.1
    unfold mQ mW mS
    omega
theorem cB_fr {σ σ' : gS} (h0 : σ' 0 = σ 0) (h3 : σ' 3 = σ 3) (h4 : σ' 4 = σ 4) (hs : ∀ k, 30 ≤ k → k < 38 → σ' k = σ k) (hk : cv σ' 63 = cv σ 63) : cB σ' = cB σ := by
  funext a
  have e2 : (fun j => if j < 4 then σ' (30 + 2 * j) 1 else 0) = (fun j => if j < 4 then σ (30 + 2 * j) 1 else 0) := by
    funext j
    by_cases h : j < 4
    · rw [if_pos h, if_pos h, hs _ (by omega) (by omega)]
    · rw [if_neg h, if_neg h]
  have e3 : (fun j => if j < 4 then σ' (30 + 2 * j) 2 else 0) = (fun j => if j < 4 then σ (30 + 2 * j) 2 else 0) := by
    funext j
    by_cases h : j < 4
    · rw [if_pos h, if_pos h, hs _ (by omega) (by omega)]
    · rw [if_neg h, if_neg h]
  unfold cB
  rw [h0, h3, h4, hk, hs 31 (by omega) (by omega), hs 33 (by omega) (by omega), hs 35 (by omega) (by omega), hs 37 (by omega) (by omega), e2, e3]
theorem Rc_q {TX : gTX} {nT n l : Nat} {P B σ σ' : gS} (h : Rc TX nT n l P B σ) (f : Fr mQ σ σ') : Rc TX nT n l P B σ' := by
  refine ⟨cI_q h.1 f, ?_, h.2.2⟩
  rw [← h.2.1]
  exact cB_fr (f _ (by unfold mQ mW mS; omega)) (f _ (by unfold mQ mW mS; omega)) (f _ (by unfold mQ mW mS; omega)) (fun k h1 h2 => f _ (by unfold mQ mW mS; omega)) (cv_fr f (fun i hi => by unfold mQ mW mS; omega))
theorem RC_q {TX : gTX} {nT n l : Nat} {P B σ σ' : gS} (h : Rc TX nT n l P B σ) (f : Fr mQ σ σ') : RC TX P B σ' := ⟨nT, n, l, Rc_q h f⟩
theorem Rc_now {TX : gTX} {nT n l n' l' : Nat} {P P' B s s' : gS} (h : Rc TX nT n l P B s) (hI : cI TX nT n' l' 45 P' s') (f : Fr (mW 45) s s') (hn : n ≤ n') (hk : ∀ j, j < n → P' 6 j = P 6 j ∧ P' 7 j = P 7 j) (he : eI P') : Rc TX nT n' l' P' B s' := by
  refine ⟨hI, ?_, ?_⟩
  · rw [← h.2.1]
    exact cB_fr (f _ (by unfold mW mS; omega)) (f _ (by unfold mW mS; omega)) (f _ (by unfold mW mS; omega)) (fun k h1 h2 => f _ (by unfold mW mS; omega)) (cv_fr f (fun i hi => by unfold mW mS; omega))
  · obtain ⟨b1, b2, b3, b4, b5, b6, b7⟩ := h.2.2
    refine ⟨b1, b2, b3, b4, b5, he, fun hq => ?_⟩
    obtain ⟨nK, lK, k1, k2, k3, k4⟩ := b7 hq
    exact ⟨nK, lK, k1, by omega, fun j hj => ⟨(k3 j hj).1.trans (hk j (by omega)).1.symm, (k3 j hj).2.trans (hk j (by omega)).2.symm⟩, k4⟩
def mR (k : Nat) : Prop := k = 1 ∨ k = 2 ∨ k = 3 ∨ k = 4 ∨ k = 16 ∨ k = 17 ∨ k = 18 ∨ k = 19
def Qm (τ τ' : gS) : Prop := (∀ k, ¬ mR k → k ≠ 0 → τ' k = τ k) ∧ ∀ j, j ≠ 31 → τ' 0 j = τ 0 j
theorem Qm.rf {a : gS} : Qm a a := ⟨fun _ _ _ => rfl, fun _ _ => rfl⟩
theorem Qm.tr {a b c : gS} (h1 : Qm a b) (h2 : Qm b c) : Qm a c := ⟨fun k h h0 => (h2.1 k h h0).trans (h1.1 k h h0), fun j h => (h2.2 j h).trans (h1.2 j h)⟩
theorem Qm.fr {m : Nat → Prop} {a b : gS} (h : Fr m a b) (h0 : ¬ m 0) (hm : ∀ k, m k → mR k) : Qm a b := ⟨fun k hk _ => h k (fun q => hk (hm k q)), fun j _ => congrFun (h 0 h0) j⟩
theorem Qm.M {a b : gS} (h : Fr mM a b) : Qm a b := Qm.fr h (by unfold mM; omega) (fun k hk => by unfold mM at hk; unfold mR; omega)
theorem Qm.H {a b : gS} (h : Fr mH a b) : Qm a b := Qm.fr h (by unfold mH; omega) (fun k hk => by unfold mH at hk; unfold mR; omega)
theorem Qm.K {a b : gS} (h : Fr mK a b) : Qm a b := Qm.fr h (by unfold mK; omega) (fun k hk => by unfold mK at hk; unfold mR; omega)
theorem Qm.up {a b : gS} {k j : Nat} {v : Int32} (e : b = g_up a k j v) (h : mR k) : Qm a b := by
  refine ⟨fun q hq _ => ?_, fun q _ => ?_⟩
  · rw [e, g_up_n (fun z => hq (by rw [z]; exact h))]
  · rw [e, g_up_n (by unfold mR at h; omega)]
theorem Rm_fr {TX : gTX} {nT n l : Nat} {P B τ τ' : gS} (h : Rm TX nT n l P B τ) (q : Qm τ τ') (e : mv τ' = mv τ) : Rm TX nT n l P B τ' := by
  obtain ⟨h1, h2, h3⟩ := h
  have hP' : mv τ' = P := e.trans h1.1
  have e6 : τ' 6 = τ 6 := q.1 6 (by unfold mR; omega) (by decide)
  have e7 : τ' 7 = τ 7 := q.1 7 (by unfold mR; omega) (by decide)
  have hI' : mI TX nT n l P τ' := ⟨hP', h1.2.1, fun t ht => by
    have := h1.2.2 t ht
    unfold mT at this ⊢
    rw [e6, e7]
    exact this⟩
  refine ⟨hI', ?_, h3⟩
  have e5 : τ' 5 = τ 5 := q.1 5 (by unfold mR; omega) (by decide)
  have e8 : τ' 8 = τ 8 := q.1 8 (by unfold mR; omega) (by decide)
  have e9 : τ' 9 = τ 9 := q.1 9 (by unfold mR; omega) (by decide)
  have e10 : τ' 10 = τ 10 := q.1 10 (by unfold mR; omega) (by decide)
  have e11 : τ' 11 = τ 11 := q.1 11 (by unfold mR; omega) (by decide)
  have e12 : τ' 12 = τ 12 := q.1 12 (by unfold mR; omega) (by decide)
  have z6 : τ' 0 6 = τ 0 6 := q.2 6 (by decide)
  have z9 : τ' 0 9 = τ 0 9 := q.2 9 (by decide)
  have z11 : τ' 0 11 = τ 0 11 := q.2 11 (by decide)
  have ek : ∀ a, (if τ 0 11 = 0 then fun _ => (0 : Int32) else kv τ' a) = (if τ 0 11 = 0 then fun _ => (0 : Int32) else kv τ a) := by
    intro a
    by_cases hz : τ 0 11 = 0
    · rw [if_pos hz, if_pos hz]
    · rw [if_neg hz, if_neg hz]
      have hB2 : B 0 2 = τ 0 11 := by
        rw [← h2]
        rfl
      obtain ⟨nK, lK, k1, k2, k3, k4⟩ := h3.2.2.2.2.2.2 ((h3.2.2.2.1).resolve_left (by rw [hB2]; exact hz))
      have hK : (fun a => B (a + 8)) 0 4 = kv τ 0 4 := by
        show B 8 4 = _
        rw [← h2]
        show (if τ 0 11 = 0 then fun _ => (0 : Int32) else kv τ 0) 4 = _
        rw [if_neg hz]
      have hn : τ 9 0 = nI nK := hK.symm.trans k1.1
      have h6 := h1.2.1.2.1
      unfold kv
      rw [e8, e9]
      have e61 : ∀ j, j < nK → τ' 1 j = τ 1 j := fun j hj => (mI_6 hI' (by omega)).trans (mI_6 h1 (by omega)).symm
      have e72 : ∀ j, j < nK → τ' 2 j = τ 2 j := fun j hj => (mI_7 hI' (by omega)).trans (mI_7 h1 (by omega)).symm
      have f6 : (fun j => if j < (τ 9 0).toNatClampNeg then τ' 1 j else 0) = (fun j => if j < (τ 9 0).toNatClampNeg then τ 1 j else 0) := by
        funext j
        rw [hn, nI_clamp (by omega)]
        by_cases hj : j < nK
        · rw [if_pos hj, if_pos hj, e61 j hj]
        · rw [if_neg hj, if_neg hj]
      have f7 : (fun j => if j < (τ 9 0).toNatClampNeg then τ' 2 j else 0) = (fun j => if j < (τ 9 0).toNatClampNeg then τ 2 j else 0) := by
        funext j
        rw [hn, nI_clamp (by omega)]
        by_cases hj : j < nK
        · rw [if_pos hj, if_pos hj, e72 j hj]
        · rw [if_neg hj, if_neg hj]
      rw [f6, f7]
  rw [← h2]
  funext a
  unfold mB
  rw [z6, z9, z11, e5, e10, e11, e12]
  simp only [ek]
theorem RM_q {TX : gTX} {nT n l : Nat} {P B τ τ' : gS} (h : Rm TX nT n l P B τ) (q : Qm τ τ') (e : mv τ' = mv τ) : RM TX P B τ' := ⟨nT, n, l, Rm_fr h q e⟩
def s_count (P B : gS) (q : Int32) : Int32 := if q = 0 then P 0 4 else if q = 1 then P 0 0 else if q = 2 then x_cnt (P 0 2) else if q = 3 then B 0 0 else if q = 4 then P 0 3 else if q = 5 then B 0 1 else -2
def s_old (P : gS) (k : Nat) : Int32 := if k < 3 then P 0 k else P 1 (k - 3)
def s_lay (P : gS) (k : Nat) (v : Int32) : gS := if k < 3 then g_up P 0 k v else g_up P 1 (k - 3) v
def s_most (q : Int32) : Int32 := if q = 0 then 9999 else if q = 1 then 8 else if q = 2 then 1023 else 99
def s_boOk (q v : Int32) : Int32 := if x_in q 0 12 = 0 then 0 else x_in v 0 (s_most q)
def s_boR (P : gS) (q v : Int32) : Int32 := if s_boOk q v = 0 then -2 else s_old P q.toNatClampNeg
def s_boP (P : gS) (q v : Int32) : gS := if s_boOk q v = 0 then P else s_lay P q.toNatClampNeg v
def s_crier (TX : gTX) (P : gS) (q : Int32) : Int32 := if q = 13 then x_crd TX P else if x_in q 0 12 = 0 then -2 else s_old P q.toNatClampNeg
def s_pick (k : Nat) (a b c e f : Int32) : Int32 := if k = 0 then a else if k = 1 then b else if k = 2 then c else if k = 3 then e else f
def s_add (B : gS) (v : Int32) : gS := g_up (g_up B 1 (B 0 1).toNatClampNeg v) 0 1 (B 0 1 + 1)
def s_feedN (B : gS) (a b c e f : Int32) : Nat → gS
  | 0 => B
  | k + 1 => s_add (s_feedN B a b c e f k) (s_pick k a b c e f)
def s_feedOk (n a b c e f : Int32) : Int32 := if x_in n 1 5 = 0 then 0 else if x_in a 0 255 = 0 then 0 else if x_in b 0 255 = 0 then 0 else if x_in c 0 255 = 0 then 0 else if x_in e 0 255 = 0 then 0 else x_in f 0 255
def s_feedR (B : gS) (n a b c e f : Int32) : Int32 := if s_feedOk n a b c e f = 0 then -2 else if 160 < B 0 1 + n then -4 else B 0 1 + n
def s_feedB (B : gS) (n a b c e f : Int32) : gS := if s_feedOk n a b c e f = 0 then B else if 160 < B 0 1 + n then B else s_feedN B a b c e f n.toNatClampNeg
def s_foR (P B : gS) (t : Int32) : Int32 := if x_in t 0 (B 0 0 - 1) = 0 then -2 else P 0 3
def s_foP (P B : gS) (t : Int32) : gS := if x_in t 0 (B 0 0 - 1) = 0 then P else g_up P 0 3 t
def s_asks (TX : gTX) (P : gS) (q p t : Int32) : Int32 := if x_in q 0 2 = 0 then -1000 else if x_one p (x_n P) = 0 then -1000 else if x_in t (-1) 9 = 0 then -1000 else x_asks TX P q.toNatClampNeg p.toNatClampNeg (if t = -1 then 0 else P 1 t.toNatClampNeg)
def s_ctOk (km wh wa : Int32) : Int32 := if x_in km 0 59 = 0 then 0 else if x_in wh 0 8 = 0 then 0 else x_in wa 0 1023
def s_set (P : gS) (km wh wa : Int32) : gS := g_up (g_up (g_up (g_up (g_up (g_up (g_up P 6 (x_n P) (km / 10)) 7 (x_n P) (km - km / 10 * 10)) 2 (x_n P) wh) 3 (x_n P) wa) 4 (x_n P) 0) 5 (x_n P) 1) 0 4 (P 0 4 + 1)
def s_ctR (P : gS) (km wh wa : Int32) : Int32 := if s_ctOk km wh wa = 0 then -2 else if x_n P = 6 then -4 else P 0 4
def s_ctP (P : gS) (km wh wa : Int32) : gS := if s_ctOk km wh wa = 0 then P else if x_n P = 6 then P else s_set P km wh wa
def s_pmost (q : Int32) : Int32 := if q = 0 then 8 else if q = 3 then 1 else 1023
def s_puOk (q v : Int32) : Int32 := if x_in q 0 3 = 0 then 0 else x_in v 0 (s_pmost q)
def s_puR (P : gS) (p q v : Int32) : Int32 := if x_one p (x_n P) = 0 then -5 else if s_puOk q v = 0 then -7 else P (2 + q.toNatClampNeg) p.toNatClampNeg
def s_puP (P : gS) (p q v : Int32) : gS := if x_one p (x_n P) = 0 then P else if s_puOk q v = 0 then P else g_up P (2 + q.toNatClampNeg) p.toNatClampNeg v
def s_told (TX : gTX) (P : gS) (p q : Int32) : Int32 := if x_one p (x_n P) = 0 then -5 else if q = 0 then P 2 p.toNatClampNeg else if q = 1 then P 3 p.toNatClampNeg else if q = 2 then P 4 p.toNatClampNeg else if q = 3 then P 5 p.toNatClampNeg else if q = 4 then P 6 p.toNatClampNeg else if q = 5 then P 7 p.toNatClampNeg else if q = 6 then x_wset TX P p.toNatClampNeg 1023 10 else if q = 7 then x_lis P p.toNatClampNeg else if q = 8 then 1000 + x_goes TX P p.toNatClampNeg else -7
def s_ring (TX : gTX) (P : gS) (c q : Int32) : Int32 := if x_in c 0 8 = 0 then -5 else if q = 0 then x_at P c (x_n P) else if q = 1 then x_lisAt P c (x_n P) else if q = 2 then x_mays TX P c 1023 else if q = 3 then x_mays TX P c (P 0 2) else -7
def s_hoR (TX : gTX) (P : gS) : Int32 := if P 0 0 = 9999 then -3 else x_crd TX P
def s_hoP (TX : gTX) (P : gS) : gS := if P 0 0 = 9999 then P else x_pass TX P
def s_ruOk (P : gS) (m q : Int32) : Int32 := if x_in m 0 40 = 0 then 0 else if x_in q 0 2 = 0 then (if x_one (q - 10) (x_n P) = 0 then x_one (q - 20) (x_n P) else 1) else 1
def s_run (TX : gTX) (P : gS) (m q : Int32) : Int32 := if s_ruOk P m q = 0 then -2 else if q = 0 then x_run TX m.toNatClampNeg P 0 2 else if q = 1 then x_cr TX m.toNatClampNeg P else if q = 2 then x_kt (x_run TX m.toNatClampNeg P) (x_n P) else if x_one (q - 10) (x_n P) = 0 then x_run TX m.toNatClampNeg P 4 (q - 20).toNatClampNeg else x_run TX m.toNatClampNeg P 2 (q - 10).toNatClampNeg
def x_isSo (P : gS) (q : Int32) : Int32 := if q = 10 then (if P 0 2 = 0 then 1 else 0) else if q < 10 then (if x_bit (P 0 2) q = 0 then 1 else 0) else x_bit (P 4 (q / 10 - 2).toNatClampNeg) (q - q / 10 * 10)
def x_when (TX : gTX) (P : gS) (q : Int32) : Nat → Nat → Int32
  | 0, _ => -1
  | f + 1, h => if x_isSo (x_run TX h P) q = 0 then x_when TX P q f (h + 1) else nI h
def s_whOk (P : gS) (q : Int32) : Int32 := if x_in q 0 10 = 0 then (if q < 20 then 0 else x_one (q / 10 - 2) (x_n P)) else 1
def s_when (TX : gTX) (P : gS) (q : Int32) : Int32 := if s_whOk P q = 0 then -7 else x_when TX P q 61 0
def b_m (f : Nat → Int32) (i : Int32) : Nat → Int32
  | 0 => i
  | k + 1 => if b_m f i k < f k then f k else b_m f i k
def b_b (f : Nat → Int32) (i : Int32) : Nat → Int32
  | 0 => -1
  | k + 1 => if b_m f i k < f k then nI k else b_b f i k
def s_where (TX : gTX) (P : gS) (q : Int32) : Int32 := if x_in q 0 1 = 0 then -2 else if q = 0 then b_b (fun c => x_cnt (x_mays TX P (nI c) (P 0 2))) (-1) 9 else b_m (fun c => x_cnt (x_mays TX P (nI c) (P 0 2))) (-1) 9
def s_begin (TX : gTX) (P : gS) (m q : Int32) : Int32 := if x_in m 0 40 = 0 then -7 else if x_in q 0 1 = 0 then -7 else if q = 0 then b_b (fun c => x_cr TX m.toNatClampNeg (g_up P 0 1 (nI c))) (-1) 9 else b_m (fun c => x_cr TX m.toNatClampNeg (g_up P 0 1 (nI c))) (-1) 9
def s_wind (TX : gTX) (P : gS) (m q : Int32) : Int32 := if x_in m 0 40 = 0 then -7 else if x_in q 0 1 = 0 then -7 else if q = 0 then b_b (fun p => x_cr TX m.toNatClampNeg (g_up P 5 p (1 - P 5 p))) (x_cr TX m.toNatClampNeg P) (x_n P) else b_m (fun p => x_cr TX m.toNatClampNeg (g_up P 5 p (1 - P 5 p))) (x_cr TX m.toNatClampNeg P) (x_n P)
def x_wsh (TX : gTX) (P : gS) (c : Int32) (t : Nat) : Nat → Int32
  | 0 => 0
  | k + 1 => if P 2 k = c then (if x_lis P k = 0 then x_wsh TX P c t k else if x_wishes TX P k t = 0 then x_wsh TX P c t k else x_wsh TX P c t k ||| ((1 : Int32) <<< (nI k &&& 31))) else x_wsh TX P c t k
def x_low (P : gS) (W : Int32) : Nat → gS
  | 0 => P
  | k + 1 => if x_bit W (nI k) = 0 then x_low P W k else g_up (x_low P W k) 5 k 0
def s_hush (TX : gTX) (P : gS) (c t q : Int32) : Int32 := if x_in c 0 8 = 0 then -5 else if x_in t 0 9 = 0 then -7 else if x_in q 0 1 = 0 then -7 else if x_may TX (x_low P (x_wsh TX P c t.toNatClampNeg (x_n P)) (x_n P)) c t.toNatClampNeg = 0 then -1 else if q = 0 then x_wsh TX P c t.toNatClampNeg (x_n P) else x_cnt (x_wsh TX P c t.toNatClampNeg (x_n P))
def x_tb (T : Nat → Int32) (W : Int32) : Nat → Int32
  | 0 => 0
  | k + 1 => if x_bit W (nI k) = 0 then x_tb T W k else x_tb T W k ||| T k
def x_rd (T : Nat → Int32) (a : Int32) : Nat → Nat
  | 0 => 511
  | k + 1 => if x_cnt (nI (x_rd T a k)) < x_cnt (nI (510 - k)) then x_rd T a k else if x_tb T (nI (510 - k)) 9 = a then 510 - k else x_rd T a k
def x_rT (TX : gTX) (P : gS) : Nat → Int32 := fun c => x_mays TX P (nI c) (P 0 2)
def x_rA (TX : gTX) (P : gS) : Int32 := x_tb (x_rT TX P) 511 9
def s_round (TX : gTX) (P : gS) (q : Int32) : Int32 := if x_in q 0 2 = 0 then -2 else if q = 2 then P 0 2 &&& (x_rA TX P ^^^ (-1)) else if q = 0 then nI (x_rd (x_rT TX P) (x_rA TX P) 511) else x_cnt (nI (x_rd (x_rT TX P) (x_rA TX P) 511))
def x_sum (P : gS) : Nat → Int32
  | 0 => 0
  | k + 1 => if x_bit (P 0 2) (nI k) = 0 then x_sum P k else x_sum P k + P 1 k
def x_lowest (a b : Nat) (q : Int32) : Int64 := if q = 0 then (nI (a / Nat.gcd a b)).toInt64 else (nI (b / Nat.gcd a b)).toInt64
def s_mean (P : gS) (q : Int32) : Int64 := if x_in q 0 1 = 0 then -4611686018427387904 else if P 0 2 = 0 then -4611686018427387904 else x_lowest (x_sum P 10).toNatClampNeg (x_cnt (P 0 2)).toNatClampNeg q
def s_ref (B : gS) (s : Int32) : Int32 := if x_in s 0 3 = 0 then -2 else if B 2 s.toNatClampNeg = -1 then -11 else if 20 < B 3 s.toNatClampNeg then -2 else 0
def x_oth (TX : gTX) (P : gS) (f : Nat → Int32) : Nat → Nat → Int32
  | 0, _ => -1
  | m + 1, i => if x_crd TX (x_run TX i P) + 1 = f i then x_oth TX P f m (i + 1) else nI i
def x_un (TX : gTX) (B : gS) (s : Nat) (P : gS) : Int32 := x_oth TX P (B (4 + s)) (B 3 s).toNatClampNeg 0
def x_fit (TX : gTX) (B : gS) (s : Nat) (F : Nat → gS) : Nat → Int32
  | 0 => 0
  | k + 1 => if x_un TX B s (F k) = -1 then x_fit TX B s F k ||| ((1 : Int32) <<< (nI k &&& 31)) else x_fit TX B s F k
def s_judge (TX : gTX) (P B : gS) (s : Int32) : Int32 := if s_ref B s = 0 then x_un TX B s.toNatClampNeg P else s_ref B s
def s_kinds (TX : gTX) (P B : gS) (s p q : Int32) : Int32 := if s_ref B s = 0 then (if x_one p (x_n P) = 0 then -5 else if x_in q 0 1 = 0 then -7 else if q = 0 then x_fit TX B s.toNatClampNeg (fun v => g_up P 6 p.toNatClampNeg (nI v)) 6 else x_fit TX B s.toNatClampNeg (fun v => g_up P 7 p.toNatClampNeg (nI v)) 10) else s_ref B s
def s_corn (TX : gTX) (P B : gS) (s p : Int32) : Int32 := if s_ref B s = 0 then (if p = -1 then x_fit TX B s.toNatClampNeg (fun v => g_up P 0 1 (nI v)) 9 else if x_one p (x_n P) = 0 then -5 else x_fit TX B s.toNatClampNeg (fun v => g_up P 2 p.toNatClampNeg (nI v)) 9) else s_ref B s
def s_turn (TX : gTX) (P B : gS) (s p q : Int32) : Int32 := if s_ref B s = 0 then (if x_one p (x_n P) = 0 then -5 else if x_in q 1 2 = 0 then -7 else x_fit TX B s.toNatClampNeg (fun v => g_up P (2 + q.toNatClampNeg) p.toNatClampNeg (P (2 + q.toNatClampNeg) p.toNatClampNeg ^^^ ((1 : Int32) <<< (nI v &&& 31)))) 10) else s_ref B s
def x_evm (TX : gTX) (B : gS) (s : Nat) (F : Nat → gS) : Nat → Nat → Int32
  | 0, _ => 0
  | m + 1, i => if x_un TX B s (F i) = -1 then x_evm TX B s F m (i + 1) + 1 else x_evm TX B s F m (i + 1)
def x_evl (TX : gTX) (B : gS) (s : Nat) (F : Nat → gS) : Nat → Nat → Int32
  | 0, _ => -1
  | m + 1, i => if x_un TX B s (F i) = -1 then nI i else x_evl TX B s F m (i + 1)
def s_evils (TX : gTX) (P B : gS) (s t q : Int32) : Int32 := if s_ref B s = 0 then (if x_in t 0 9 = 0 then -5 else if x_in q 0 1 = 0 then -7 else if q = 0 then x_evm TX B s.toNatClampNeg (fun v => g_up P 1 t.toNatClampNeg (nI v)) 100 0 else x_evl TX B s.toNatClampNeg (fun v => g_up P 1 t.toNatClampNeg (nI v)) 100 0) else s_ref B s
def s_laws (TX : gTX) (P B : gS) (s : Int32) : Int32 := if s_ref B s = 0 then x_fit TX B s.toNatClampNeg (fun v => g_up P 0 3 (nI v)) (B 0 0).toNatClampNeg else s_ref B s
def x_film (TX : gTX) (P : gS) (m : Nat) : Nat → Int32 := fun j => if j < m then x_crd TX (x_run TX j P) + 1 else 0
def s_fiR (s m : Int32) : Int32 := if x_in s 0 3 = 0 then -2 else if x_in m 0 20 = 0 then -7 else m
def s_fiB (TX : gTX) (P B : gS) (s m : Int32) : gS := if x_in s 0 3 = 0 then B else if x_in m 0 20 = 0 then B else g_set (g_up (g_up B 2 s.toNatClampNeg 0) 3 s.toNatClampNeg m) (4 + s.toNatClampNeg) (x_film TX P m.toNatClampNeg)
def x_lt (m : Nat) : Nat → Nat
  | 0 => m
  | k + 1 => x_lt m k * 48271 % 2147483647
def x_tw (P : gS) (n a b : Nat) : gS := if a % 6 < n then g_up P 3 (a % 6) (P 3 (a % 6) ^^^ ((1 : Int32) <<< (nI (b % 10) &&& 31))) else P
def x_ltP (TX : gTX) (P : gS) (n m : Nat) : Nat → gS
  | 0 => P
  | k + 1 => x_pass TX (x_tw (x_ltP TX P n m k) n (x_lt m (2 * k + 1)) (x_lt m (2 * k + 2)))
def x_ltC (TX : gTX) (P : gS) (n m : Nat) : Nat → Int32
  | 0 => 0
  | k + 1 => if x_crd TX (x_tw (x_ltP TX P n m k) n (x_lt m (2 * k + 1)) (x_lt m (2 * k + 2))) = -1 then x_ltC TX P n m k else x_ltC TX P n m k + 1
def s_drawn (TX : gTX) (P : gS) (sd q : Int32) : Int32 := if x_in sd 0 99999 = 0 then -2 else if x_in q 0 1 = 0 then -2 else if q = 0 then x_ltC TX P (x_n P) (sd.toNatClampNeg + 1) 10 else x_ltP TX P (x_n P) (sd.toNatClampNeg + 1) 10 0 2
def x_od (TX : gTX) (P : gS) (n m : Nat) (le : Int32) : Nat → Nat
  | 0 => 0
  | k + 1 => if x_ltC TX P n (m + k + 1) 10 < le then x_od TX P n m le k else x_od TX P n m le k + 1
def s_odds (TX : gTX) (P : gS) (sd ss le q : Int32) : Int64 := if x_in sd 0 99999 = 0 then -4611686018427387904 else if x_in ss 1 40 = 0 then -4611686018427387904 else if x_in le 0 10 = 0 then -4611686018427387904 else if x_in q 0 1 = 0 then -4611686018427387904 else x_lowest (x_od TX P (x_n P) sd.toNatClampNeg le ss.toNatClampNeg) ss.toNatClampNeg q
def s_img (P B : gS) : gS := fun a => if a < 8 then (if a = 0 then upd (B 0) 2 1 else B a) else P (a - 8)
def s_baR (B : gS) : Int32 := if B 0 2 = 0 then -3 else B 8 4
def s_baP (P B : gS) : gS := if B 0 2 = 0 then P else fun a => B (a + 8)
def s_shR (s q m : Int32) : Int32 := if x_in s 0 3 = 0 then -2 else if x_in q (-1) 2 = 0 then -2 else if q = -1 then 1 else if 40 < m then -2 else if m < 0 then -14 else 1
def s_shB (B : gS) (s q m : Int32) : gS := if s_shR s q m = 1 then g_set (g_up (g_up B 2 s.toNatClampNeg q) 3 s.toNatClampNeg (if q = -1 then 0 else m)) (4 + s.toNatClampNeg) (fun _ => 0) else B
def x_nar (q v : Int32) : Int32 := if q = 0 then v.toInt8.toInt32 else if q = 1 then v.toInt16.toInt32 else v
def s_ceR (B : gS) (s i : Int32) : Int32 := if x_in s 0 3 = 0 then -2 else if B 2 s.toNatClampNeg = -1 then -11 else if x_in i 0 (B 3 s.toNatClampNeg - 1) = 0 then -12 else 1
def s_ceB (B : gS) (s i v : Int32) : gS := if s_ceR B s i = 1 then g_up B (4 + s.toNatClampNeg) i.toNatClampNeg (x_nar (B 2 s.toNatClampNeg) v) else B
def x_hol (z i m : Int32) : Int32 := if i < 0 then 0 else if m < 0 then 0 else if z - m < i then 0 else 1
def s_coR (B : gS) (s i o j m : Int32) : Int32 := if x_in s 0 3 = 0 then -2 else if x_in o 0 3 = 0 then -2 else if B 2 s.toNatClampNeg = -1 then -11 else if B 2 o.toNatClampNeg = -1 then -11 else if B 2 s.toNatClampNeg = B 2 o.toNatClampNeg then (if x_hol (B 3 s.toNatClampNeg) i m = 0 then -12 else if x_hol (B 3 o.toNatClampNeg) j m = 0 then -12 else m) else -13
def s_coB (B : gS) (s i o j m : Int32) : gS := if s_coR B s i o j m < 0 then B else g_set B (4 + o.toNatClampNeg) (fun x => if j.toNatClampNeg ≤ x ∧ x < j.toNatClampNeg + m.toNatClampNeg then B (4 + s.toNatClampNeg) (i.toNatClampNeg + (x - j.toNatClampNeg)) else B (4 + o.toNatClampNeg) x)
def x_ppl (f : Nat → Int32) (z : Int32) : Nat → gS → Int32 → Int32 → gS × Int32
  | 0, P, _, c => (P, c)
  | m + 1, P, i, c => if x_hol z i 3 = 0 then (P, -12) else x_ppl f z m (s_ctP P (f i.toNatClampNeg) (f (i.toNatClampNeg + 1)) (f (i.toNatClampNeg + 2))) (i + 3) (if s_ctR P (f i.toNatClampNeg) (f (i.toNatClampNeg + 1)) (f (i.toNatClampNeg + 2)) < 0 then c else c + 1)
def s_ppE (B : gS) (s q m : Int32) : Int32 := if x_in s 0 3 = 0 then -2 else if x_in q 0 2 = 0 then -2 else if x_in m 0 6 = 0 then -2 else if B 2 s.toNatClampNeg = -1 then -11 else if B 2 s.toNatClampNeg = q then 0 else -13
def s_ppR (P B : gS) (s q i m : Int32) : Int32 := if s_ppE B s q m = 0 then (x_ppl (B (4 + s.toNatClampNeg)) (B 3 s.toNatClampNeg) m.toNatClampNeg P i 0).2 else s_ppE B s q m
def s_ppP (P B : gS) (s q i m : Int32) : gS := if s_ppE B s q m = 0 then (x_ppl (B (4 + s.toNatClampNeg)) (B 3 s.toNatClampNeg) m.toNatClampNeg P i 0).1 else P
def s_taken (P : gS) (i q : Int32) : Int32 := if x_in q 0 6 = 0 then -2 else if x_in i 0 11 = 0 then -12 else if i < 6 then (if x_one i (x_n P) = 0 then -11 else if x_isOf (P 6 i.toNatClampNeg) q = 0 then -13 else i) else if x_one (i - 6) (x_n P) = 0 then -11 else if q = 6 then P 5 (i - 6).toNatClampNeg else -13
