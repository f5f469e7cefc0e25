theorem x_nar_crd (TX : gTX) (P : gS) : x_nar 0 (x_crd TX P + 1) = x_crd TX P + 1 := by
  rcases x_crd_r TX P with h | ⟨t, ht, h⟩
  · rw [h]
    decide
  · rw [h]
    have : ∀ t, t < 10 → x_nar 0 (nI t + 1) = nI t + 1 := by decide +kernel
    exact this t ht
theorem x_film0 (TX : gTX) (P : gS) (j : Nat) : x_film TX P 0 j = 0 := if_neg (by omega)
theorem x_filmS {TX : gTX} {P : gS} {k j : Nat} (h : ¬ j = k) : x_film TX P (k + 1) j = x_film TX P k j := by
  unfold x_film
  by_cases e : j < k
  · rw [if_pos e, if_pos (by omega)]
  · rw [if_neg e, if_neg (by omega)]
theorem Rc_img {TX : gTX} {nT n l : Nat} {P B s s1 s2 : gS} (h : Rc TX nT n l P B s) (f : Fr (mU 63) s s1) (e : cv s1 63 = cv s 45) (e2 : s2 = g_up s1 0 7 1) : Rc TX nT n l P (s_img P B) s2 := by
  obtain ⟨⟨c1, c2, c3, c4⟩, h2, b1, b2, b3, b4, b5, b6, b7⟩ := h
  have fr : Fr (fun k => k = 0 ∨ mU 63 k) s s2 := (f.mono (fun k hk => Or.inr hk)).tr (Fr.up e2 (Or.inl rfl))
  have ho : ∀ k, k ≠ 0 → k < 63 → s2 k = s k := fun k h1 h2 => fr k (by unfold mU; omega)
  have z0 : ∀ j, s2 0 j = if j = 7 then 1 else s 0 j := fun j => by
    rw [e2, g_up_sj, f 0 (by unfold mU; omega)]
  have zk : cv s2 63 = P := by
    have q1 : cv s2 63 = cv s1 63 := cv_fr (m := fun k => k = 0) (fun k hk => by rw [e2, g_up_n hk]) (fun i _ => by omega)
    rw [q1, e, c2]
  have ei : ∀ a, a < 8 → a ≠ 0 → s_img P B a = B a := fun a h1 h2 => by
    unfold s_img
    rw [if_pos h1, if_neg h2]
  have e8 : ∀ a, s_img P B (a + 8) = P a := fun a => by
    unfold s_img
    rw [if_neg (by omega), Nat.add_sub_cancel]
  have e0 : s_img P B 0 = upd (B 0) 2 1 := rfl
  refine ⟨⟨c1, ?_, c3, fun t ht => cT_fr fr ?_ ?_ (c4 t ht)⟩, ?_, ?_⟩
  · rw [cv_fr fr (fun i hi => by unfold mU; omega)]
    exact c2
  · unfold mU
    have := Nat.lt_of_lt_of_le ht c3.2.2.2.2.1
    omega
  · unfold mU
    have := Nat.lt_of_lt_of_le ht c3.2.2.2.2.1
    omega
  · funext a
    rcases a with _ | _ | _ | _ | _ | _ | _ | _ | a
    · rw [e0, ← h2]
      funext j
      show (if j = 0 then s2 0 8 else if j = 1 then s2 3 1 else if j = 2 then s2 0 7 else 0) = if j = 2 then 1 else (if j = 0 then s 0 8 else if j = 1 then s 3 1 else if j = 2 then s 0 7 else 0)
      rw [z0, z0, ho 3 (by decide) (by decide)]
      by_cases q0 : j = 0
      · simp [q0]
      · by_cases q1 : j = 1
        · simp [q1]
        · by_cases q2 : j = 2 <;> simp [q0, q1, q2]
    · rw [ei _ (by decide) (by decide), ← h2]
      show (fun j => if j < (s2 3 1).toNatClampNeg then s2 4 j else 0) = fun j => if j < (s 3 1).toNatClampNeg then s 4 j else 0
      rw [ho 3 (by decide) (by decide), ho 4 (by decide) (by decide)]
    · rw [ei _ (by decide) (by decide), ← h2]
      funext j
      show (if j < 4 then s2 (30 + 2 * j) 1 else 0) = if j < 4 then s (30 + 2 * j) 1 else 0
      by_cases q : j < 4
      · rw [if_pos q, if_pos q, ho _ (by omega) (by omega)]
      · rw [if_neg q, if_neg q]
    · rw [ei _ (by decide) (by decide), ← h2]
      funext j
      show (if j < 4 then s2 (30 + 2 * j) 2 else 0) = if j < 4 then s (30 + 2 * j) 2 else 0
      by_cases q : j < 4
      · rw [if_pos q, if_pos q, ho _ (by omega) (by omega)]
      · rw [if_neg q, if_neg q]
    · rw [ei _ (by decide) (by decide), ← h2]
      show (fun j => if j < 40 then s2 31 j else 0) = fun j => if j < 40 then s 31 j else 0
      rw [ho 31 (by decide) (by decide)]
    · rw [ei _ (by decide) (by decide), ← h2]
      show (fun j => if j < 40 then s2 33 j else 0) = fun j => if j < 40 then s 33 j else 0
      rw [ho 33 (by decide) (by decide)]
    · rw [ei _ (by decide) (by decide), ← h2]
      show (fun j => if j < 40 then s2 35 j else 0) = fun j => if j < 40 then s 35 j else 0
      rw [ho 35 (by decide) (by decide)]
    · rw [ei _ (by decide) (by decide), ← h2]
      show (fun j => if j < 40 then s2 37 j else 0) = fun j => if j < 40 then s 37 j else 0
      rw [ho 37 (by decide) (by decide)]
    · rw [e8]
      show (if s2 0 7 = 0 then fun _ => 0 else cv s2 63 a) = P a
      rw [z0, if_pos rfl, if_neg (by decide), zk]
  · have ek : (fun a => s_img P B (a + 8)) = P := funext e8
    refine ⟨b1, b2, fun j => ?_, Or.inr rfl, fun s hs => ?_, b6, fun _ => ?_⟩
    · rw [ei 1 (by decide) (by decide)]
      exact b3 j
    · have := b5 s hs
      unfold shI at this ⊢
      rw [ei 2 (by decide) (by decide), ei 3 (by decide) (by decide)]
      exact this
    · rw [ek]
      exact ⟨n, l, c3, Nat.le_refl n, fun j hj => ⟨rfl, rfl⟩, b6⟩
theorem RC_bac {TX : gTX} {nT n l : Nat} {P B s s1 : gS} (h : Rc TX nT n l P B s) (hq : B 0 2 = 1) (f : Fr (mU 45) s s1) (e : cv s1 45 = cv s 63) : RC TX (fun a => B (a + 8)) B s1 ∧ s1 45 6 = B 8 4 := by
  obtain ⟨⟨c1, c2, c3, c4⟩, h2, b1, b2, b3, b4, b5, b6, b7⟩ := h
  obtain ⟨nK, lK, k1, k2, k3, k4⟩ := b7 hq
  have hz : s 0 7 = 1 := by
    rw [← hq, ← h2]
    rfl
  have ek : cv s1 45 = fun a => B (a + 8) := by
    rw [e]
    funext a
    rw [← h2]
    show _ = (if s 0 7 = 0 then fun _ => 0 else cv s 63 a)
    rw [hz, if_neg (by decide)]
  refine ⟨⟨nT, nK, lK, ⟨c1, ek, k1, fun t ht => cT_fr f ?_ ?_ (c4 t ht)⟩, ?_, b1, b2, b3, b4, b5, k4, fun _ => ⟨nK, lK, k1, Nat.le_refl _, fun j hj => ⟨rfl, rfl⟩, k4⟩⟩, ?_⟩
  · unfold mU
    have := Nat.lt_of_lt_of_le ht c3.2.2.2.2.1
    omega
  · unfold mU
    have := Nat.lt_of_lt_of_le ht c3.2.2.2.2.1
    omega
  · rw [← h2]
    exact cB_fr (f _ (by unfold mU; omega)) (f _ (by unfold mU; omega)) (f _ (by unfold mU; omega)) (fun k h1 h2 => f _ (by unfold mU; omega)) (cv_fr f (fun i hi => by unfold mU; omega))
  · exact congrFun (congrFun ek 0) 4
theorem s_shU_num {B : gS} {u : Nat} {nf : Nat → Int32} : s_shU B u (B 2 u) (B 3 u) nf = g_set B (4 + u) nf := by
  unfold s_shU
  rw [g_up_id, g_up_id]
theorem Rc_num {TX : gTX} {nT n l u : Nat} {P B s s' : gS} {nf : Nat → Int32} (h : Rc TX nT n l P B s) (hu : u < 4) (e : s' = g_set s (30 + 2 * u + 1) nf) {nB : Nat → Int32} (he : ∀ j, j < 40 → nf j = nB j) (h40 : ∀ j, 40 ≤ j → nB j = 0) : Rc TX nT n l P (g_set B (4 + u) nB) s' := by
  have f : Fr (mQs u) s s' := fun k hk => by
    rw [e]
    exact g_set_n _ _ (fun q => hk (by rw [q]; exact Or.inr (Or.inr rfl)))
  rw [← s_shU_num]
  refine Rc_sh h hu f (h.2.2.2.2.2.2.1 u hu) ?_ ?_ (fun j hj => ?_) h40
  · rw [e, g_set_n _ _ (by omega)]
    exact cB_so h.2.1 hu
  · rw [e, g_set_n _ _ (by omega)]
    exact cB_sz h.2.1 hu
  · rw [e, g_set_s]
    exact he j hj
theorem cB_n40 {s B : gS} (h : cB s = B) {u j : Nat} (hu : u < 4) (hj : 40 ≤ j) : B (4 + u) j = 0 := by
  rw [← h]
  have : u = 0 ∨ u = 1 ∨ u = 2 ∨ u = 3 := by omega
  rcases this with rfl | rfl | rfl | rfl <;> exact if_neg (by omega)
theorem x_holT {z : Nat} {i m : Int32} (hz : z ≤ 1000) (h : ¬ x_hol (nI z) i m = 0) : ∃ a b, i = nI a ∧ m = nI b ∧ a + b ≤ z := by
  unfold x_hol at h
  by_cases h1 : i < 0
  · rw [if_pos h1] at h
    exact absurd rfl h
  · rw [if_neg h1] at h
    by_cases h2 : m < 0
    · rw [if_pos h2] at h
      exact absurd rfl h
    · rw [if_neg h2] at h
      by_cases h3 : nI z - m < i
      · rw [if_pos h3] at h
        exact absurd rfl h
      · obtain ⟨a, ha, rfl⟩ := nI_of h1
        obtain ⟨b, hb, rfl⟩ := nI_of h2
        refine ⟨a, b, rfl, rfl, ?_⟩
        have e : (nI z - nI b).toInt = (z : Int) - b := by
          have q1 := nI_toInt (n := z) (by omega)
          have q2 := nI_toInt (n := b) (by omega)
          rw [Int32.toInt_sub, q1, q2]
          exact Int.bmod_eq_of_le_mul_two (by omega) (by omega)
        have h4 : ¬ (nI z - nI b).toInt < (nI a).toInt := fun q => h3 (Int32.lt_iff_toInt_lt.mpr q)
        rw [e, nI_toInt ha] at h4
        omega
theorem dX10_film_0 : decode cX10_film 0 = .ok (.iload_n 1, 1) := by decide +kernel
theorem dX10_film_1 : decode cX10_film 1 = .ok (.iconst 0, 1) := by decide +kernel
theorem dX10_film_2 : decode cX10_film 2 = .ok (.iconst 3, 1) := by decide +kernel
theorem dX10_film_3 : decode cX10_film 3 = .ok (.invokestatic 112, 3) := by decide +kernel
theorem dX10_film_6 : decode cX10_film 6 = .ok (.ifCond .ne 6, 3) := by decide +kernel
theorem dX10_film_9 : decode cX10_film 9 = .ok (.bipush (-2), 2) := by decide +kernel
theorem dX10_film_11 : decode cX10_film 11 = .ok (.ireturn, 1) := by decide +kernel
theorem dX10_film_12 : decode cX10_film 12 = .ok (.iload_n 2, 1) := by decide +kernel
theorem dX10_film_13 : decode cX10_film 13 = .ok (.iconst 0, 1) := by decide +kernel
theorem dX10_film_14 : decode cX10_film 14 = .ok (.bipush 20, 2) := by decide +kernel
theorem dX10_film_16 : decode cX10_film 16 = .ok (.invokestatic 112, 3) := by decide +kernel
theorem dX10_film_19 : decode cX10_film 19 = .ok (.ifCond .ne 6, 3) := by decide +kernel
theorem dX10_film_22 : decode cX10_film 22 = .ok (.bipush (-7), 2) := by decide +kernel
theorem dX10_film_24 : decode cX10_film 24 = .ok (.ireturn, 1) := by decide +kernel
theorem dX10_film_25 : decode cX10_film 25 = .ok (.aload_n 0, 1) := by decide +kernel
theorem dX10_film_26 : decode cX10_film 26 = .ok (.getfield 17, 3) := by decide +kernel
theorem dX10_film_29 : decode cX10_film 29 = .ok (.iload_n 1, 1) := by decide +kernel
theorem dX10_film_30 : decode cX10_film 30 = .ok (.aaload, 1) := by decide +kernel
theorem dX10_film_31 : decode cX10_film 31 = .ok (.iconst 0, 1) := by decide +kernel
theorem dX10_film_32 : decode cX10_film 32 = .ok (.iload_n 2, 1) := by decide +kernel
theorem dX10_film_33 : decode cX10_film 33 = .ok (.invokevirtual 225, 3) := by decide +kernel
theorem dX10_film_36 : decode cX10_film 36 = .ok (.aload_n 0, 1) := by decide +kernel
theorem dX10_film_37 : decode cX10_film 37 = .ok (.getfield 61, 3) := by decide +kernel
theorem dX10_film_40 : decode cX10_film 40 = .ok (.aload_n 0, 1) := by decide +kernel
theorem dX10_film_41 : decode cX10_film 41 = .ok (.getfield 57, 3) := by decide +kernel
theorem dX10_film_44 : decode cX10_film 44 = .ok (.invokevirtual 174, 3) := by decide +kernel
theorem dX10_film_47 : decode cX10_film 47 = .ok (.iconst 0, 1) := by decide +kernel
theorem dX10_film_48 : decode cX10_film 48 = .ok (.istore_n 3, 1) := by decide +kernel
theorem dX10_film_49 : decode cX10_film 49 = .ok (.iload_n 3, 1) := by decide +kernel
theorem dX10_film_50 : decode cX10_film 50 = .ok (.iload_n 2, 1) := by decide +kernel
theorem dX10_film_51 : decode cX10_film 51 = .ok (.if_icmp .ge 28, 3) := by decide +kernel
theorem dX10_film_54 : decode cX10_film 54 = .ok (.aload_n 0, 1) := by decide +kernel
theorem dX10_film_55 : decode cX10_film 55 = .ok (.getfield 17, 3) := by decide +kernel
theorem dX10_film_58 : decode cX10_film 58 = .ok (.iload_n 1, 1) := by decide +kernel
theorem dX10_film_59 : decode cX10_film 59 = .ok (.aaload, 1) := by decide +kernel
theorem dX10_film_60 : decode cX10_film 60 = .ok (.iload_n 3, 1) := by decide +kernel
theorem dX10_film_61 : decode cX10_film 61 = .ok (.aload_n 0, 1) := by decide +kernel
theorem dX10_film_62 : decode cX10_film 62 = .ok (.getfield 61, 3) := by decide +kernel
theorem dX10_film_65 : decode cX10_film 65 = .ok (.invokevirtual 171, 3) := by decide +kernel
theorem dX10_film_68 : decode cX10_film 68 = .ok (.iconst 1, 1) := by decide +kernel
theorem dX10_film_69 : decode cX10_film 69 = .ok (.iadd, 1) := by decide +kernel
theorem dX10_film_70 : decode cX10_film 70 = .ok (.invokevirtual 228, 3) := by decide +kernel
theorem dX10_film_73 : decode cX10_film 73 = .ok (.iinc 3 1, 3) := by decide +kernel
theorem dX10_film_76 : decode cX10_film 76 = .ok (.goto (-27), 3) := by decide +kernel
theorem dX10_film_79 : decode cX10_film 79 = .ok (.iload_n 2, 1) := by decide +kernel
theorem dX10_film_80 : decode cX10_film 80 = .ok (.ireturn, 1) := by decide +kernel
set_option maxHeartbeats 4000000 in
set_option maxRecDepth 100000 in
theorem c_X10_film (d : Nat) (TX : gTX) (P B s : gS) (hR0 : RC TX P B s) (t m : Int32) : gMt SC yX10_film cX10_film 4 (some .int) (d + 10) (fun ad => [.ref (ad 0), .int t, .int m]) s (gQi SC (fun r s' => RC TX P (s_fiB TX P B t m) s' ∧ r = s_fiR t m)) := by
  obtain ⟨nT, n, l, hR⟩ := hR0
  have hI := hR.1
  have hn6 : n ≤ 6 := hI.2.2.1.2.1
  have hl6 : l < 6 := cI_l6 hI
  have hxn : x_n P = n := x_nOf hI.2.2.1.1 hn6
  have hbI := hR.2.2
  refine gMt_of SC_ok (by decide +kernel) (fun ad => [some (.ref (ad 0)), some (.int t), some (.int m), none]) (fun _ => rfl) (fun _ => rfl) (fun _ => Nat.le_of_ble_eq_true rfl) (fun E C0 => ?_)
  have C : gCx SC E RX10 cX10_film 4 (some .int) (d + 10) := C0
  have fm : cI TX nT n l 45 P s := hI
  refine G_iload_n (i := 1) C 1 dX10_film_0 rfl rfl rfl ?_
  refine G_iconst (v := 0) C 2 dX10_film_1 rfl rfl ?_
  refine G_iconst (v := 3) C 3 dX10_film_2 rfl rfl ?_
  refine G_calli 6 (G_runS C Kc_X10_within KS_X10_112 (by omega) (c_X10_within 0 t 0 3 s) rfl rfl (Nat.le_of_ble_eq_true rfl) rfl dX10_film_3) rfl (fun x3 s3 h3 => ?_)
  obtain ⟨es3, h3⟩ := h3
  have es3 := es3.symm
  subst es3
  refine G_if_ne C 12 9 dX10_film_6 rfl rfl (fun c6 => ?_) (fun c6 => ?_)
  ·
    have k6 := g_neT h3 c6
    obtain ⟨ut, hut, eut⟩ := x_inR (b := 3) k6 rfl (by decide)
    have cut : t.toNatClampNeg = ut := by rw [eut, nI_clamp (by omega)]
    refine G_iload_n (i := 2) C 13 dX10_film_12 rfl rfl rfl ?_
    refine G_iconst (v := 0) C 14 dX10_film_13 rfl rfl ?_
    refine G_bipush (v := 20) C 16 dX10_film_14 rfl rfl ?_
    refine G_calli 19 (G_runS C Kc_X10_within KS_X10_112 (by omega) (c_X10_within 0 m 0 20 s) rfl rfl (Nat.le_of_ble_eq_true rfl) rfl dX10_film_16) rfl (fun x16 s16 h16 => ?_)
    obtain ⟨es16, h16⟩ := h16
    have es16 := es16.symm
    subst es16
    refine G_if_ne C 25 22 dX10_film_19 rfl rfl (fun c19 => ?_) (fun c19 => ?_)
    ·
      have k19 := g_neT h16 c19
      obtain ⟨um, hum, eum⟩ := x_inR (b := 20) k19 rfl (by decide)
      have cum : m.toNatClampNeg = um := by rw [eum, nI_clamp (by omega)]
      have fz : Fr (mQs ut) s s := Fr.rf
      refine G_aload_n (i := 0) C 26 dX10_film_25 rfl rfl rfl ?_
      refine X10_17g C 29 dX10_film_26 rfl ?_
      refine G_iload_n (i := 1) C 30 dX10_film_29 rfl rfl rfl ?_
      refine G_aald (r := (30 + 2 * ut)) C 31 (by decide) (eC2 _ _ _) (fun _ => rfl) (ut) eut (by omega) (by decide) rfl dX10_film_30 rfl ?_
      refine G_iconst (v := 0) C 32 dX10_film_31 rfl rfl ?_
      refine G_iload_n (i := 2) C 33 dX10_film_32 rfl rfl rfl ?_
      refine G_callv 36 (G_runV C Kc_X4_become KV_X10_225 (by omega) (lS0 (by omega)) (eSh _ _ _ (by omega)) rfl (c_X4_become 0 ut (by omega) 0 m s) rfl rfl rfl (Nat.le_of_ble_eq_true rfl) rfl dX10_film_33) rfl (fun s33 h33 => ?_)
      have fm_1 : cI TX nT n l 45 P s33 := cI_qs (u := ut) (by omega) fm (Fr.shQ h33.1)
      have fz_1 : Fr (mQs ut) s s33 := Fr.tr fz (Fr.shQ h33.1)
      have sh : s33 (30 + 2 * ut) 1 = 0 ∧ s33 (30 + 2 * ut) 2 = m := ⟨h33.2.1, h33.2.2.1⟩
      have nu : ∀ j, j < 40 → s33 (30 + 2 * ut + 1) j = x_film TX P 0 j := fun j hj => by rw [h33.2.2.2 j hj, x_film0]
      refine G_aload_n (i := 0) C 37 dX10_film_36 rfl rfl rfl ?_
      refine X10_61g C 40 dX10_film_37 rfl ?_
      refine G_aload_n (i := 0) C 41 dX10_film_40 rfl rfl rfl ?_
      refine X10_57g C 44 dX10_film_41 rfl ?_
      refine G_callv 47 (G_runV C Kc_X9_become KV_X10_174 (by omega) (lW0 (Or.inr (Or.inl rfl))) (eW _ _ _ (Or.inr (Or.inl rfl))) rfl (c_X9_become 0 54 45 (Or.inr (Or.inl rfl)) (Or.inl rfl) (by decide) s33) rfl rfl rfl (Nat.le_of_ble_eq_true rfl) rfl dX10_film_44) rfl (fun s44 h44 => ?_)
      have fm_2 : cI TX nT n l 45 P s44 := cI_qs (u := ut) (by omega) fm_1 (Fr.qQs h44.1.UQ)
      have fz_2 : Fr (mQs ut) s s44 := Fr.tr fz_1 (Fr.qQs h44.1.UQ)
      have nu_1 : ∀ j, j < 40 → s44 (30 + 2 * ut + 1) j = x_film TX P 0 j := by rw [h44.1 (30 + 2 * ut + 1) (by unfold mU; omega)]; exact nu
      have sh_1 : s44 (30 + 2 * ut) 1 = 0 ∧ s44 (30 + 2 * ut) 2 = m := by rw [h44.1 (30 + 2 * ut) (by unfold mU; omega)]; exact sh
      have i_1 : cI TX nT n l 54 P s44 := cI_bec fm_2 h44.1 h44.2
      refine G_iconst (v := 0) C 48 dX10_film_47 rfl rfl ?_
      refine G_istore_n (i := 3) (L' := [some (.ref (e_ad E 0)), some (.int t), some (.int m), some (.int 0)]) C 49 dX10_film_48 rfl rfl (Nat.le_of_ble_eq_true rfl) rfl rfl ?_
      have L49 : ∀ (f49 : Nat) (k : Nat) (y : Int32) (sl49 : gS) (Ey : y = nI k) (hk : k ≤ um) (fml49 : cI TX nT n l 45 P sl49) (fzl49 : Fr (mQs ut) s sl49) (nul49 : ∀ j, j < 40 → sl49 (30 + 2 * ut + 1) j = x_film TX P k j) (shl49 : sl49 (30 + 2 * ut) 1 = 0 ∧ sl49 (30 + 2 * ut) 2 = m) (il49 : cI TX nT n l 54 (x_run TX k P) sl49), um < k + f49 → GW SC E (gFin SC E (gQi SC (fun r s' => RC TX P (s_fiB TX P B t m) s' ∧ r = s_fiR t m))) 49 [some (.ref (e_ad E 0)), some (.int t), some (.int m), some (.int y)] [] sl49 := by
        intro f49
        induction f49 with
        | zero =>
          intro k y sl49 Ey hk fml49 fzl49 nul49 shl49 il49 hf49
          exact absurd hf49 (by omega)
        | succ f49 ih49 =>
          intro k y sl49 Ey hk fml49 fzl49 nul49 shl49 il49 hf49
          refine G_iload_n (i := 3) C 50 dX10_film_49 rfl rfl rfl ?_
          refine G_iload_n (i := 2) C 51 dX10_film_50 rfl rfl rfl ?_
          refine G_icmp_ge C 79 54 dX10_film_51 rfl rfl (fun c51 => ?_) (fun c51 => ?_)
          ·
            have n51 : ¬ k < um := fun h => c51 ((g_ltN (a := k) (b := um) (hx := Ey) (hy := eum) (by omega) (by omega)).mpr h)
            refine G_iload_n (i := 2) C 80 dX10_film_79 rfl rfl rfl ?_
            exact G_iret C dX10_film_80 (⟨by
                have e : k = um := by omega
                subst e
                unfold s_fiB; rw [if_neg k6, if_neg k19, cut, cum]
                exact ⟨nT, n, l, Rc_sh (so := 0) (sz := m) hR (by omega) fzl49 (Or.inr ⟨0, k, by decide, by omega, rfl, eum⟩) shl49.1 shl49.2 nul49 (fun j hj => if_neg (by omega))⟩, by unfold s_fiR; rw [if_neg k6, if_neg k19]⟩)
          ·
            have n51 : k < um := (g_ltN (a := k) (b := um) (hx := Ey) (hy := eum) (by omega) (by omega)).mp c51
            refine G_aload_n (i := 0) C 55 dX10_film_54 rfl rfl rfl ?_
            refine X10_17g C 58 dX10_film_55 rfl ?_
            refine G_iload_n (i := 1) C 59 dX10_film_58 rfl rfl rfl ?_
            refine G_aald (r := (30 + 2 * ut)) C 60 (by decide) (eC2 _ _ _) (fun _ => rfl) (ut) eut (by omega) (by decide) rfl dX10_film_59 rfl ?_
            refine G_iload_n (i := 3) C 61 dX10_film_60 rfl rfl rfl ?_
            refine G_aload_n (i := 0) C 62 dX10_film_61 rfl rfl rfl ?_
            refine X10_61g C 65 dX10_film_62 rfl ?_
            refine G_calli 68 (G_runV C Kc_X9_pass KV_X10_171 (by omega) (lW0 (Or.inr (Or.inl rfl))) (eW _ _ _ (Or.inr (Or.inl rfl))) rfl (c_X9_pass 0 TX nT n l 54 (x_run TX k P) sl49 il49) rfl rfl rfl (Nat.le_of_ble_eq_true rfl) rfl dX10_film_65) rfl (fun x65 s65 h65 => ?_)
            have fm_3 : cI TX nT n l 45 P s65 := cI_qs (u := ut) (by omega) fml49 (Fr.qQs h65.1.Q)
            have fz_3 : Fr (mQs ut) s s65 := Fr.tr fzl49 (Fr.qQs h65.1.Q)
            have nu_2 : ∀ j, j < 40 → s65 (30 + 2 * ut + 1) j = x_film TX P k j := by rw [h65.1 (30 + 2 * ut + 1) (by unfold mW mS; omega)]; exact nul49
            have sh_2 : s65 (30 + 2 * ut) 1 = 0 ∧ s65 (30 + 2 * ut) 2 = m := by rw [h65.1 (30 + 2 * ut) (by unfold mW mS; omega)]; exact shl49
            have i_2 : cI TX nT n l 54 (x_run TX (k + 1) P) s65 := h65.2.1
            refine G_iconst (v := 1) C 69 dX10_film_68 rfl rfl ?_
            refine G_iadd C 70 dX10_film_69 rfl (fun x69 ex69 => ?_)
            refine G_callv 73 (G_runV C Kc_X4_set KV_X10_228 (by omega) (lS0 (by omega)) (eSh _ _ _ (by omega)) rfl (c_X4_set 0 ut (by omega) um k (by omega) (by omega) y x69 Ey s65 (sh_2.2.trans eum)) rfl rfl rfl (Nat.le_of_ble_eq_true rfl) rfl dX10_film_70) rfl (fun s70 h70 => ?_)
            have fm_4 : cI TX nT n l 45 P s70 := cI_qs (u := ut) (by omega) fm_3 (Fr.shQ (Fr.sh1 (Fr.up h70 rfl)))
            have fz_4 : Fr (mQs ut) s s70 := Fr.tr fz_3 (Fr.shQ (Fr.sh1 (Fr.up h70 rfl)))
            have nu_3 : ∀ j, j < 40 → s70 (30 + 2 * ut + 1) j = x_film TX P (k + 1) j := fun j hj => by
              rw [h70, g_up_sj]
              by_cases e : j = k
              · rw [if_pos e, e, sh_2.1, ex69, h65.2.2, x_nar_crd]
                exact (if_pos (by omega)).symm
              · rw [if_neg e, x_filmS e]
                exact nu_2 j hj
            have sh_3 : s70 (30 + 2 * ut) 1 = 0 ∧ s70 (30 + 2 * ut) 2 = m := by rw [h70, g_up_n (by omega)]; exact sh_2
            have i_3 : cI TX nT n l 54 (x_run TX (k + 1) P) s70 := cI_sh i_2 (Fr.up h70 (by omega))
            refine G_iinc (w := 1) C 76 dX10_film_73 rfl rfl rfl rfl (fun x73 ex73 => ?_)
            have Nx73 : x73 = nI (k + 1) := g_addN ex73 Ey rfl
            show GW SC E _ 76 [some (.ref (e_ad E 0)), some (.int t), some (.int m), some (.int x73)] [] s70
            refine G_goto C 49 dX10_film_76 rfl ?_
            exact ih49 (k + 1) x73 s70 (g_cn (a := (k + 1)) Nx73 (by first | rfl | omega | (simp only [List.length_cons, List.length_drop]; done) | (simp only [List.length_cons, List.length_drop]; omega))) (by omega) fm_4 fz_4 (nu_3) sh_3 (i_3) (by omega)
      exact L49 (um + 1) 0 0 s44 (g_cn (a := 0) rfl (by first | rfl | omega)) (by omega) fm_2 fz_2 (nu_1) sh_1 (i_1) (by omega)
    ·
      have k19 := h16.symm.trans c19
      refine G_bipush (v := (-7)) C 24 dX10_film_22 rfl rfl ?_
      exact G_iret C dX10_film_24 (⟨by unfold s_fiB; rw [if_neg k6, if_pos k19]; exact ⟨nT, n, l, hR⟩, by unfold s_fiR; rw [if_neg k6, if_pos k19]⟩)
  ·
    have k6 := h3.symm.trans c6
    refine G_bipush (v := (-2)) C 11 dX10_film_9 rfl rfl ?_
    exact G_iret C dX10_film_11 (⟨by unfold s_fiB; rw [if_pos k6]; exact ⟨nT, n, l, hR⟩, by unfold s_fiR; rw [if_pos k6]⟩)
theorem dX10_image_0 : decode cX10_image 0 = .ok (.aload_n 0, 1) := by decide +kernel
theorem dX10_image_1 : decode cX10_image 1 = .ok (.getfield 64, 3) := by decide +kernel
theorem dX10_image_4 : decode cX10_image 4 = .ok (.aload_n 0, 1) := by decide +kernel
theorem dX10_image_5 : decode cX10_image 5 = .ok (.getfield 57, 3) := by decide +kernel
theorem dX10_image_8 : decode cX10_image 8 = .ok (.invokevirtual 174, 3) := by decide +kernel
theorem dX10_image_11 : decode cX10_image 11 = .ok (.aload_n 0, 1) := by decide +kernel
theorem dX10_image_12 : decode cX10_image 12 = .ok (.iconst 1, 1) := by decide +kernel
theorem dX10_image_13 : decode cX10_image 13 = .ok (.putfield 235, 3) := by decide +kernel
theorem dX10_image_16 : decode cX10_image 16 = .ok (.aload_n 0, 1) := by decide +kernel
theorem dX10_image_17 : decode cX10_image 17 = .ok (.getfield 57, 3) := by decide +kernel
theorem dX10_image_20 : decode cX10_image 20 = .ok (.getfield 94, 3) := by decide +kernel
theorem dX10_image_23 : decode cX10_image 23 = .ok (.ireturn, 1) := by decide +kernel
set_option maxHeartbeats 4000000 in
set_option maxRecDepth 100000 in
theorem c_X10_image (d : Nat) (TX : gTX) (P B s : gS) (hR0 : RC TX P B s) : gMt SC yX10_image cX10_image 1 (some .int) (d + 2) (fun ad => [.ref (ad 0)]) s (gQi SC (fun r s' => RC TX P (s_img P B) s' ∧ r = P 0 4)) := by
  obtain ⟨nT, n, l, hR⟩ := hR0
  have hI := hR.1
  have hn6 : n ≤ 6 := hI.2.2.1.2.1
  have hl6 : l < 6 := cI_l6 hI
  have hxn : x_n P = n := x_nOf hI.2.2.1.1 hn6
  have hbI := hR.2.2
  refine gMt_of SC_ok (by decide +kernel) (fun ad => [some (.ref (ad 0))]) (fun _ => rfl) (fun _ => rfl) (fun _ => Nat.le_of_ble_eq_true rfl) (fun E C0 => ?_)
  have C : gCx SC E RX10 cX10_image 1 (some .int) (d + 2) := C0
  refine G_aload_n (i := 0) C 1 dX10_image_0 rfl rfl rfl ?_
  refine X10_64g C 4 dX10_image_1 rfl ?_
  refine G_aload_n (i := 0) C 5 dX10_image_4 rfl rfl rfl ?_
  refine X10_57g C 8 dX10_image_5 rfl ?_
  refine G_callv 11 (G_runV C Kc_X9_become KV_X10_174 (by omega) (lW0 (Or.inr (Or.inr rfl))) (eW _ _ _ (Or.inr (Or.inr rfl))) rfl (c_X9_become 0 63 45 (Or.inr (Or.inr rfl)) (Or.inl rfl) (by decide) s) rfl rfl rfl (Nat.le_of_ble_eq_true rfl) rfl dX10_image_8) rfl (fun s8 h8 => ?_)
  refine G_aload_n (i := 0) C 12 dX10_image_11 rfl rfl rfl ?_
  refine G_iconst (v := 1) C 13 dX10_image_12 rfl rfl ?_
  refine X10_235p C 16 ⟨rfl, rfl⟩ dX10_image_13 rfl (fun s13 es13 => ?_)
  refine G_aload_n (i := 0) C 17 dX10_image_16 rfl rfl rfl ?_
  refine X10_57g C 20 dX10_image_17 rfl ?_
  refine X10_94g C (Or.inl rfl) 23 dX10_image_20 rfl (fun x20 ex20 => ?_)
  exact G_iret C dX10_image_23 (⟨⟨nT, n, l, Rc_img hR h8.1 h8.2 es13⟩, by
      rw [ex20, es13, g_up_n (by decide), h8.1 45 (by unfold mU; omega)]
      exact cI_v hI 0 4⟩)
theorem dX10_back_0 : decode cX10_back 0 = .ok (.aload_n 0, 1) := by decide +kernel
theorem dX10_back_1 : decode cX10_back 1 = .ok (.getfield 235, 3) := by decide +kernel
theorem dX10_back_4 : decode cX10_back 4 = .ok (.ifCond .ne 6, 3) := by decide +kernel
theorem dX10_back_7 : decode cX10_back 7 = .ok (.bipush (-3), 2) := by decide +kernel
theorem dX10_back_9 : decode cX10_back 9 = .ok (.ireturn, 1) := by decide +kernel
theorem dX10_back_10 : decode cX10_back 10 = .ok (.aload_n 0, 1) := by decide +kernel
theorem dX10_back_11 : decode cX10_back 11 = .ok (.getfield 57, 3) := by decide +kernel
theorem dX10_back_14 : decode cX10_back 14 = .ok (.aload_n 0, 1) := by decide +kernel
theorem dX10_back_15 : decode cX10_back 15 = .ok (.getfield 64, 3) := by decide +kernel
theorem dX10_back_18 : decode cX10_back 18 = .ok (.invokevirtual 174, 3) := by decide +kernel
theorem dX10_back_21 : decode cX10_back 21 = .ok (.aload_n 0, 1) := by decide +kernel
theorem dX10_back_22 : decode cX10_back 22 = .ok (.getfield 57, 3) := by decide +kernel
theorem dX10_back_25 : decode cX10_back 25 = .ok (.getfield 94, 3) := by decide +kernel
theorem dX10_back_28 : decode cX10_back 28 = .ok (.ireturn, 1) := by decide +kernel
set_option maxHeartbeats 4000000 in
set_option maxRecDepth 100000 in
theorem c_X10_back (d : Nat) (TX : gTX) (P B s : gS) (hR0 : RC TX P B s) : gMt SC yX10_back cX10_back 1 (some .int) (d + 2) (fun ad => [.ref (ad 0)]) s (gQi SC (fun r s' => RC TX (s_baP P B) B s' ∧ r = s_baR B)) := by
  obtain ⟨nT, n, l, hR⟩ := hR0
  have hI := hR.1
  have hn6 : n ≤ 6 := hI.2.2.1.2.1
  have hl6 : l < 6 := cI_l6 hI
  have hxn : x_n P = n := x_nOf hI.2.2.1.1 hn6
  have hbI := hR.2.2
  refine gMt_of SC_ok (by decide +kernel) (fun ad => [some (.ref (ad 0))]) (fun _ => rfl) (fun _ => rfl) (fun _ => Nat.le_of_ble_eq_true rfl) (fun E C0 => ?_)
  have C : gCx SC E RX10 cX10_back 1 (some .int) (d + 2) := C0
  refine G_aload_n (i := 0) C 1 dX10_back_0 rfl rfl rfl ?_
  refine X10_235g C 4 dX10_back_1 rfl (fun x1 ex1 => ?_)
  have Sx1 : x1 = B 0 2 := ex1.trans (congrFun (congrFun hR.2.1 0) 2)
  refine G_if_ne C 10 7 dX10_back_4 rfl rfl (fun c4 => ?_) (fun c4 => ?_)
  ·
    have hz : ¬ B 0 2 = 0 := fun w => c4 (Sx1.trans w)
    have hq : B 0 2 = 1 := hbI.2.2.2.1.resolve_left hz
    refine G_aload_n (i := 0) C 11 dX10_back_10 rfl rfl rfl ?_
    refine X10_57g C 14 dX10_back_11 rfl ?_
    refine G_aload_n (i := 0) C 15 dX10_back_14 rfl rfl rfl ?_
    refine X10_64g C 18 dX10_back_15 rfl ?_
    refine G_callv 21 (G_runV C Kc_X9_become KV_X10_174 (by omega) (lW0 (Or.inl rfl)) (eW _ _ _ (Or.inl rfl)) rfl (c_X9_become 0 45 63 (Or.inl rfl) (Or.inr (Or.inr rfl)) (by decide) s) rfl rfl rfl (Nat.le_of_ble_eq_true rfl) rfl dX10_back_18) rfl (fun s18 h18 => ?_)
    refine G_aload_n (i := 0) C 22 dX10_back_21 rfl rfl rfl ?_
    refine X10_57g C 25 dX10_back_22 rfl ?_
    refine X10_94g C (Or.inl rfl) 28 dX10_back_25 rfl (fun x25 ex25 => ?_)
    exact G_iret C dX10_back_28 (⟨by unfold s_baP; rw [if_neg hz]; exact (RC_bac hR hq h18.1 h18.2).1, by unfold s_baR; rw [if_neg hz]; exact ex25.trans (RC_bac hR hq h18.1 h18.2).2⟩)
  ·
    refine G_bipush (v := (-3)) C 9 dX10_back_7 rfl rfl ?_
    exact G_iret C dX10_back_9 (⟨by unfold s_baP; rw [if_pos (Sx1.symm.trans c4)]; exact ⟨nT, n, l, hR⟩, by unfold s_baR; rw [if_pos (Sx1.symm.trans c4)]⟩)
theorem dX10_sheet_0 : decode cX10_sheet 0 = .ok (.iload_n 2, 1) := by decide +kernel
theorem dX10_sheet_1 : decode cX10_sheet 1 = .ok (.iconst (-1), 1) := by decide +kernel
theorem dX10_sheet_2 : decode cX10_sheet 2 = .ok (.if_icmp .ne 7, 3) := by decide +kernel
theorem dX10_sheet_5 : decode cX10_sheet 5 = .ok (.iconst 1, 1) := by decide +kernel
theorem dX10_sheet_6 : decode cX10_sheet 6 = .ok (.goto 4, 3) := by decide +kernel
theorem dX10_sheet_9 : decode cX10_sheet 9 = .ok (.iconst 0, 1) := by decide +kernel
theorem dX10_sheet_10 : decode cX10_sheet 10 = .ok (.istore 4, 2) := by decide +kernel
theorem dX10_sheet_12 : decode cX10_sheet 12 = .ok (.iload_n 1, 1) := by decide +kernel
theorem dX10_sheet_13 : decode cX10_sheet 13 = .ok (.iconst 0, 1) := by decide +kernel
theorem dX10_sheet_14 : decode cX10_sheet 14 = .ok (.iconst 3, 1) := by decide +kernel
theorem dX10_sheet_15 : decode cX10_sheet 15 = .ok (.invokestatic 112, 3) := by decide +kernel
theorem dX10_sheet_18 : decode cX10_sheet 18 = .ok (.ifCond .eq 23, 3) := by decide +kernel
theorem dX10_sheet_21 : decode cX10_sheet 21 = .ok (.iload_n 2, 1) := by decide +kernel
theorem dX10_sheet_22 : decode cX10_sheet 22 = .ok (.iconst (-1), 1) := by decide +kernel
theorem dX10_sheet_23 : decode cX10_sheet 23 = .ok (.iconst 2, 1) := by decide +kernel
theorem dX10_sheet_24 : decode cX10_sheet 24 = .ok (.invokestatic 112, 3) := by decide +kernel
theorem dX10_sheet_27 : decode cX10_sheet 27 = .ok (.ifCond .eq 14, 3) := by decide +kernel
theorem dX10_sheet_30 : decode cX10_sheet 30 = .ok (.iload 4, 2) := by decide +kernel
theorem dX10_sheet_32 : decode cX10_sheet 32 = .ok (.ifCond .ne 12, 3) := by decide +kernel
theorem dX10_sheet_35 : decode cX10_sheet 35 = .ok (.iload_n 3, 1) := by decide +kernel
theorem dX10_sheet_36 : decode cX10_sheet 36 = .ok (.bipush 40, 2) := by decide +kernel
theorem dX10_sheet_38 : decode cX10_sheet 38 = .ok (.if_icmp .le 6, 3) := by decide +kernel
theorem dX10_sheet_41 : decode cX10_sheet 41 = .ok (.bipush (-2), 2) := by decide +kernel
theorem dX10_sheet_43 : decode cX10_sheet 43 = .ok (.ireturn, 1) := by decide +kernel
theorem dX10_sheet_44 : decode cX10_sheet 44 = .ok (.iload 4, 2) := by decide +kernel
theorem dX10_sheet_46 : decode cX10_sheet 46 = .ok (.ifCond .ne 10, 3) := by decide +kernel
theorem dX10_sheet_49 : decode cX10_sheet 49 = .ok (.iload_n 3, 1) := by decide +kernel
theorem dX10_sheet_50 : decode cX10_sheet 50 = .ok (.ifCond .ge 6, 3) := by decide +kernel
theorem dX10_sheet_53 : decode cX10_sheet 53 = .ok (.bipush (-14), 2) := by decide +kernel
theorem dX10_sheet_55 : decode cX10_sheet 55 = .ok (.ireturn, 1) := by decide +kernel
theorem dX10_sheet_56 : decode cX10_sheet 56 = .ok (.aload_n 0, 1) := by decide +kernel
theorem dX10_sheet_57 : decode cX10_sheet 57 = .ok (.getfield 17, 3) := by decide +kernel
theorem dX10_sheet_60 : decode cX10_sheet 60 = .ok (.iload_n 1, 1) := by decide +kernel
theorem dX10_sheet_61 : decode cX10_sheet 61 = .ok (.aaload, 1) := by decide +kernel
theorem dX10_sheet_62 : decode cX10_sheet 62 = .ok (.iload_n 2, 1) := by decide +kernel
theorem dX10_sheet_63 : decode cX10_sheet 63 = .ok (.iload 4, 2) := by decide +kernel
theorem dX10_sheet_65 : decode cX10_sheet 65 = .ok (.ifCond .eq 7, 3) := by decide +kernel
theorem dX10_sheet_68 : decode cX10_sheet 68 = .ok (.iconst 0, 1) := by decide +kernel
theorem dX10_sheet_69 : decode cX10_sheet 69 = .ok (.goto 4, 3) := by decide +kernel
theorem dX10_sheet_72 : decode cX10_sheet 72 = .ok (.iload_n 3, 1) := by decide +kernel
theorem dX10_sheet_73 : decode cX10_sheet 73 = .ok (.invokevirtual 225, 3) := by decide +kernel
theorem dX10_sheet_76 : decode cX10_sheet 76 = .ok (.iconst 1, 1) := by decide +kernel
theorem dX10_sheet_77 : decode cX10_sheet 77 = .ok (.ireturn, 1) := by decide +kernel
set_option maxHeartbeats 4000000 in
set_option maxRecDepth 100000 in
theorem c_X10_sheet (d : Nat) (TX : gTX) (P B s : gS) (hR0 : RC TX P B s) (t q m : Int32) : gMt SC yX10_sheet cX10_sheet 5 (some .int) (d + 3) (fun ad => [.ref (ad 0), .int t, .int q, .int m]) s (gQi SC (fun r s' => RC TX P (s_shB B t q m) s' ∧ r = s_shR t q m)) := by
  obtain ⟨nT, n, l, hR⟩ := hR0
  have hI := hR.1
  have hn6 : n ≤ 6 := hI.2.2.1.2.1
  have hl6 : l < 6 := cI_l6 hI
  have hxn : x_n P = n := x_nOf hI.2.2.1.1 hn6
  have hbI := hR.2.2
  refine gMt_of SC_ok (by decide +kernel) (fun ad => [some (.ref (ad 0)), some (.int t), some (.int q), some (.int m), none]) (fun _ => rfl) (fun _ => rfl) (fun _ => Nat.le_of_ble_eq_true rfl) (fun E C0 => ?_)
  have C : gCx SC E RX10 cX10_sheet 5 (some .int) (d + 3) := C0
  refine G_iload_n (i := 2) C 1 dX10_sheet_0 rfl rfl rfl ?_
  refine G_iconst (v := (-1)) C 2 dX10_sheet_1 rfl rfl ?_
  refine G_icmp_ne C 9 5 dX10_sheet_2 rfl rfl (fun c2 => ?_) (fun c2 => ?_)
  ·
    refine G_iconst (v := 0) C 10 dX10_sheet_9 rfl rfl ?_
    refine G_istore (L' := [some (.ref (e_ad E 0)), some (.int t), some (.int q), some (.int m), some (.int 0)]) C 12 dX10_sheet_10 rfl (Nat.le_of_ble_eq_true rfl) rfl rfl ?_
    refine G_iload_n (i := 1) C 13 dX10_sheet_12 rfl rfl rfl ?_
    refine G_iconst (v := 0) C 14 dX10_sheet_13 rfl rfl ?_
    refine G_iconst (v := 3) C 15 dX10_sheet_14 rfl rfl ?_
    refine G_calli 18 (G_runS C Kc_X10_within KS_X10_112 (by omega) (c_X10_within 0 t 0 3 s) rfl rfl (Nat.le_of_ble_eq_true rfl) rfl dX10_sheet_15) rfl (fun x15 s15 h15 => ?_)
    obtain ⟨es15, h15⟩ := h15
    have es15 := es15.symm
    subst es15
    refine G_if_eq C 41 21 dX10_sheet_18 rfl rfl (fun c18 => ?_) (fun c18 => ?_)
    ·
      have k18 := h15.symm.trans c18
      refine G_bipush (v := (-2)) C 43 dX10_sheet_41 rfl rfl ?_
      exact G_iret C dX10_sheet_43 (⟨by unfold s_shB; rw [if_neg (by unfold s_shR; rw [if_pos k18]; decide)]; exact ⟨nT, n, l, hR⟩, by unfold s_shR; rw [if_pos k18]⟩)
    ·
      have k18 := g_neT h15 c18
      obtain ⟨ut, hut, eut⟩ := x_inR (b := 3) k18 rfl (by decide)
      have cut : t.toNatClampNeg = ut := by rw [eut, nI_clamp (by omega)]
      refine G_iload_n (i := 2) C 22 dX10_sheet_21 rfl rfl rfl ?_
      refine G_iconst (v := (-1)) C 23 dX10_sheet_22 rfl rfl ?_
      refine G_iconst (v := 2) C 24 dX10_sheet_23 rfl rfl ?_
      refine G_calli 27 (G_runS C Kc_X10_within KS_X10_112 (by omega) (c_X10_within 0 q (-1) 2 s) rfl rfl (Nat.le_of_ble_eq_true rfl) rfl dX10_sheet_24) rfl (fun x24 s24 h24 => ?_)
      obtain ⟨es24, h24⟩ := h24
      have es24 := es24.symm
      subst es24
      refine G_if_eq C 41 30 dX10_sheet_27 rfl rfl (fun c27 => ?_) (fun c27 => ?_)
      ·
        have k27 := h24.symm.trans c27
        refine G_bipush (v := (-2)) C 43 dX10_sheet_41 rfl rfl ?_
        exact G_iret C dX10_sheet_43 (⟨by unfold s_shB; rw [if_neg (by unfold s_shR; rw [if_neg k18, if_pos k27]; decide)]; exact ⟨nT, n, l, hR⟩, by unfold s_shR; rw [if_neg k18, if_pos k27]⟩)
      ·
        have k27 := g_neT h24 c27
        refine G_iload C 32 dX10_sheet_30 rfl rfl ?_
        refine G_if_ne C 44 35 dX10_sheet_32 rfl rfl (fun c => absurd c (by decide)) (fun _ => ?_)
        refine G_iload_n (i := 3) C 36 dX10_sheet_35 rfl rfl rfl ?_
        refine G_bipush (v := 40) C 38 dX10_sheet_36 rfl rfl ?_
        refine G_icmp_le C 44 41 dX10_sheet_38 rfl rfl (fun c38 => ?_) (fun c38 => ?_)
        ·
          refine G_iload C 46 dX10_sheet_44 rfl rfl ?_
          refine G_if_ne C 56 49 dX10_sheet_46 rfl rfl (fun c => absurd c (by decide)) (fun _ => ?_)
          refine G_iload_n (i := 3) C 50 dX10_sheet_49 rfl rfl rfl ?_
          refine G_if_ge C 56 53 dX10_sheet_50 rfl rfl (fun c50 => ?_) (fun c50 => ?_)
          ·
            refine G_aload_n (i := 0) C 57 dX10_sheet_56 rfl rfl rfl ?_
            refine X10_17g C 60 dX10_sheet_57 rfl ?_
            refine G_iload_n (i := 1) C 61 dX10_sheet_60 rfl rfl rfl ?_
            refine G_aald (r := (30 + 2 * ut)) C 62 (by decide) (eC2 _ _ _) (fun _ => rfl) (ut) eut (by omega) (by decide) rfl dX10_sheet_61 rfl ?_
            refine G_iload_n (i := 2) C 63 dX10_sheet_62 rfl rfl rfl ?_
            refine G_iload C 65 dX10_sheet_63 rfl rfl ?_
            refine G_if_eq C 72 68 dX10_sheet_65 rfl rfl (fun _ => ?_) (fun c => absurd c (by decide))
            refine G_iload_n (i := 3) C 73 dX10_sheet_72 rfl rfl rfl ?_
            refine G_callv 76 (G_runV C Kc_X4_become KV_X10_225 (by omega) (lS0 (by omega)) (eSh _ _ _ (by omega)) rfl (c_X4_become 0 ut (by omega) q m s) rfl rfl rfl (Nat.le_of_ble_eq_true rfl) rfl dX10_sheet_73) rfl (fun s73 h73 => ?_)
            refine G_iconst (v := 1) C 77 dX10_sheet_76 rfl rfl ?_
            have hr : s_shR t q m = 1 := by unfold s_shR; rw [if_neg k18, if_neg k27, if_neg c2, if_neg c38, if_neg c50]
            obtain ⟨uq, huq, euq⟩ := (x_inRm (b := 2) k27 rfl (by decide)).resolve_left c2
            obtain ⟨um, hum, eum⟩ : ∃ um, um ≤ 40 ∧ m = nI um := by
              obtain ⟨j, hj, ej⟩ := nI_of c50
              rw [ej, show (40 : Int32) = nI 40 from rfl, nI_ltI (by omega) hj] at c38
              exact ⟨j, by omega, ej⟩
            exact G_iret C dX10_sheet_77 (⟨by unfold s_shB; rw [if_pos hr, cut, if_neg c2]; exact ⟨nT, n, l, Rc_sh hR (by omega) (Fr.shQ h73.1) (Or.inr ⟨uq, um, by omega, hum, euq, eum⟩) h73.2.1 h73.2.2.1 h73.2.2.2 (fun _ _ => rfl)⟩, hr.symm⟩)
          ·
            refine G_bipush (v := (-14)) C 55 dX10_sheet_53 rfl rfl ?_
            exact G_iret C dX10_sheet_55 (⟨by unfold s_shB; rw [if_neg (by unfold s_shR; rw [if_neg k18, if_neg k27, if_neg c2, if_neg c38, if_pos c50]; decide)]; exact ⟨nT, n, l, hR⟩, by unfold s_shR; rw [if_neg k18, if_neg k27, if_neg c2, if_neg c38, if_pos c50]⟩)
        ·
          refine G_bipush (v := (-2)) C 43 dX10_sheet_41 rfl rfl ?_
          exact G_iret C dX10_sheet_43 (⟨by unfold s_shB; rw [if_neg (by unfold s_shR; rw [if_neg k18, if_neg k27, if_neg c2, if_pos c38]; decide)]; exact ⟨nT, n, l, hR⟩, by unfold s_shR; rw [if_neg k18, if_neg k27, if_neg c2, if_pos c38]⟩)
  ·
    refine G_iconst (v := 1) C 6 dX10_sheet_5 rfl rfl ?_
    refine G_goto C 10 dX10_sheet_6 rfl ?_
    refine G_istore (L' := [some (.ref (e_ad E 0)), some (.int t), some (.int q), some (.int m), some (.int 1)]) C 12 dX10_sheet_10 rfl (Nat.le_of_ble_eq_true rfl) rfl rfl ?_
    refine G_iload_n (i := 1) C 13 dX10_sheet_12 rfl rfl rfl ?_
    refine G_iconst (v := 0) C 14 dX10_sheet_13 rfl rfl ?_
    refine G_iconst (v := 3) C 15 dX10_sheet_14 rfl rfl ?_
    refine G_calli 18 (G_runS C Kc_X10_within KS_X10_112 (by omega) (c_X10_within 0 t 0 3 s) rfl rfl (Nat.le_of_ble_eq_true rfl) rfl dX10_sheet_15) rfl (fun x15 s15 h15 => ?_)
    obtain ⟨es15, h15⟩ := h15
    have es15 := es15.symm
    subst es15
    refine G_if_eq C 41 21 dX10_sheet_18 rfl rfl (fun c18 => ?_) (fun c18 => ?_)
    ·
      have k18 := h15.symm.trans c18
      refine G_bipush (v := (-2)) C 43 dX10_sheet_41 rfl rfl ?_
      exact G_iret C dX10_sheet_43 (⟨by unfold s_shB; rw [if_neg (by unfold s_shR; rw [if_pos k18]; decide)]; exact ⟨nT, n, l, hR⟩, by unfold s_shR; rw [if_pos k18]⟩)
    ·
      have k18 := g_neT h15 c18
      obtain ⟨ut, hut, eut⟩ := x_inR (b := 3) k18 rfl (by decide)
      have cut : t.toNatClampNeg = ut := by rw [eut, nI_clamp (by omega)]
      refine G_iload_n (i := 2) C 22 dX10_sheet_21 rfl rfl rfl ?_
      refine G_iconst (v := (-1)) C 23 dX10_sheet_22 rfl rfl ?_
      refine G_iconst (v := 2) C 24 dX10_sheet_23 rfl rfl ?_
      refine G_calli 27 (G_runS C Kc_X10_within KS_X10_112 (by omega) (c_X10_within 0 q (-1) 2 s) rfl rfl (Nat.le_of_ble_eq_true rfl) rfl dX10_sheet_24) rfl (fun x24 s24 h24 => ?_)
      obtain ⟨es24, h24⟩ := h24
      have es24 := es24.symm
      subst es24
      refine G_if_eq C 41 30 dX10_sheet_27 rfl rfl (fun c27 => ?_) (fun c27 => ?_)
      ·
        have k27 := h24.symm.trans c27
        refine G_bipush (v := (-2)) C 43 dX10_sheet_41 rfl rfl ?_
        exact G_iret C dX10_sheet_43 (⟨by unfold s_shB; rw [if_neg (by unfold s_shR; rw [if_neg k18, if_pos k27]; decide)]; exact ⟨nT, n, l, hR⟩, by unfold s_shR; rw [if_neg k18, if_pos k27]⟩)
      ·
        have k27 := g_neT h24 c27
        refine G_iload C 32 dX10_sheet_30 rfl rfl ?_
        refine G_if_ne C 44 35 dX10_sheet_32 rfl rfl (fun _ => ?_) (fun c => absurd c (by decide))
        refine G_iload C 46 dX10_sheet_44 rfl rfl ?_
        refine G_if_ne C 56 49 dX10_sheet_46 rfl rfl (fun _ => ?_) (fun c => absurd c (by decide))
        refine G_aload_n (i := 0) C 57 dX10_sheet_56 rfl rfl rfl ?_
        refine X10_17g C 60 dX10_sheet_57 rfl ?_
        refine G_iload_n (i := 1) C 61 dX10_sheet_60 rfl rfl rfl ?_
        refine G_aald (r := (30 + 2 * ut)) C 62 (by decide) (eC2 _ _ _) (fun _ => rfl) (ut) eut (by omega) (by decide) rfl dX10_sheet_61 rfl ?_
        refine G_iload_n (i := 2) C 63 dX10_sheet_62 rfl rfl rfl ?_
        refine G_iload C 65 dX10_sheet_63 rfl rfl ?_
        refine G_if_eq C 72 68 dX10_sheet_65 rfl rfl (fun c => absurd c (by decide)) (fun _ => ?_)
        refine G_iconst (v := 0) C 69 dX10_sheet_68 rfl rfl ?_
        refine G_goto C 73 dX10_sheet_69 rfl ?_
        refine G_callv 76 (G_runV C Kc_X4_become KV_X10_225 (by omega) (lS0 (by omega)) (eSh _ _ _ (by omega)) rfl (c_X4_become 0 ut (by omega) q 0 s) rfl rfl rfl (Nat.le_of_ble_eq_true rfl) rfl dX10_sheet_73) rfl (fun s73 h73 => ?_)
        refine G_iconst (v := 1) C 77 dX10_sheet_76 rfl rfl ?_
        have hr : s_shR t q m = 1 := by unfold s_shR; rw [if_neg k18, if_neg k27, if_pos c2]
        exact G_iret C dX10_sheet_77 (⟨by unfold s_shB; rw [if_pos hr, cut, if_pos c2]; exact ⟨nT, n, l, Rc_sh hR (by omega) (Fr.shQ h73.1) (Or.inl ⟨c2, rfl⟩) h73.2.1 h73.2.2.1 h73.2.2.2 (fun _ _ => rfl)⟩, hr.symm⟩)
theorem dX10_cell_0 : decode cX10_cell 0 = .ok (.iload_n 1, 1) := by decide +kernel
theorem dX10_cell_1 : decode cX10_cell 1 = .ok (.iconst 0, 1) := by decide +kernel
theorem dX10_cell_2 : decode cX10_cell 2 = .ok (.iconst 3, 1) := by decide +kernel
theorem dX10_cell_3 : decode cX10_cell 3 = .ok (.invokestatic 112, 3) := by decide +kernel
theorem dX10_cell_6 : decode cX10_cell 6 = .ok (.ifCond .ne 6, 3) := by decide +kernel
theorem dX10_cell_9 : decode cX10_cell 9 = .ok (.bipush (-2), 2) := by decide +kernel
theorem dX10_cell_11 : decode cX10_cell 11 = .ok (.ireturn, 1) := by decide +kernel
theorem dX10_cell_12 : decode cX10_cell 12 = .ok (.aload_n 0, 1) := by decide +kernel
theorem dX10_cell_13 : decode cX10_cell 13 = .ok (.getfield 17, 3) := by decide +kernel
theorem dX10_cell_16 : decode cX10_cell 16 = .ok (.iload_n 1, 1) := by decide +kernel
theorem dX10_cell_17 : decode cX10_cell 17 = .ok (.aaload, 1) := by decide +kernel
theorem dX10_cell_18 : decode cX10_cell 18 = .ok (.getfield 239, 3) := by decide +kernel
theorem dX10_cell_21 : decode cX10_cell 21 = .ok (.iconst (-1), 1) := by decide +kernel
theorem dX10_cell_22 : decode cX10_cell 22 = .ok (.if_icmp .ne 6, 3) := by decide +kernel
theorem dX10_cell_25 : decode cX10_cell 25 = .ok (.bipush (-11), 2) := by decide +kernel
theorem dX10_cell_27 : decode cX10_cell 27 = .ok (.ireturn, 1) := by decide +kernel
theorem dX10_cell_28 : decode cX10_cell 28 = .ok (.iload_n 2, 1) := by decide +kernel
theorem dX10_cell_29 : decode cX10_cell 29 = .ok (.iconst 0, 1) := by decide +kernel
theorem dX10_cell_30 : decode cX10_cell 30 = .ok (.aload_n 0, 1) := by decide +kernel
theorem dX10_cell_31 : decode cX10_cell 31 = .ok (.getfield 17, 3) := by decide +kernel
theorem dX10_cell_34 : decode cX10_cell 34 = .ok (.iload_n 1, 1) := by decide +kernel
theorem dX10_cell_35 : decode cX10_cell 35 = .ok (.aaload, 1) := by decide +kernel
theorem dX10_cell_36 : decode cX10_cell 36 = .ok (.getfield 242, 3) := by decide +kernel
theorem dX10_cell_39 : decode cX10_cell 39 = .ok (.iconst 1, 1) := by decide +kernel
theorem dX10_cell_40 : decode cX10_cell 40 = .ok (.isub, 1) := by decide +kernel
theorem dX10_cell_41 : decode cX10_cell 41 = .ok (.invokestatic 112, 3) := by decide +kernel
theorem dX10_cell_44 : decode cX10_cell 44 = .ok (.ifCond .ne 6, 3) := by decide +kernel
theorem dX10_cell_47 : decode cX10_cell 47 = .ok (.bipush (-12), 2) := by decide +kernel
theorem dX10_cell_49 : decode cX10_cell 49 = .ok (.ireturn, 1) := by decide +kernel
theorem dX10_cell_50 : decode cX10_cell 50 = .ok (.aload_n 0, 1) := by decide +kernel
theorem dX10_cell_51 : decode cX10_cell 51 = .ok (.getfield 17, 3) := by decide +kernel
theorem dX10_cell_54 : decode cX10_cell 54 = .ok (.iload_n 1, 1) := by decide +kernel
theorem dX10_cell_55 : decode cX10_cell 55 = .ok (.aaload, 1) := by decide +kernel
theorem dX10_cell_56 : decode cX10_cell 56 = .ok (.iload_n 2, 1) := by decide +kernel
theorem dX10_cell_57 : decode cX10_cell 57 = .ok (.iload_n 3, 1) := by decide +kernel
theorem dX10_cell_58 : decode cX10_cell 58 = .ok (.invokevirtual 228, 3) := by decide +kernel
theorem dX10_cell_61 : decode cX10_cell 61 = .ok (.iconst 1, 1) := by decide +kernel
theorem dX10_cell_62 : decode cX10_cell 62 = .ok (.ireturn, 1) := by decide +kernel
set_option maxHeartbeats 4000000 in
set_option maxRecDepth 100000 in
theorem c_X10_cell (d : Nat) (TX : gTX) (P B s : gS) (hR0 : RC TX P B s) (t i v : Int32) : gMt SC yX10_cell cX10_cell 4 (some .int) (d + 3) (fun ad => [.ref (ad 0), .int t, .int i, .int v]) s (gQi SC (fun r s' => RC TX P (s_ceB B t i v) s' ∧ r = s_ceR B t i)) := by
  obtain ⟨nT, n, l, hR⟩ := hR0
  have hI := hR.1
  have hn6 : n ≤ 6 := hI.2.2.1.2.1
  have hl6 : l < 6 := cI_l6 hI
  have hxn : x_n P = n := x_nOf hI.2.2.1.1 hn6
  have hbI := hR.2.2
  refine gMt_of SC_ok (by decide +kernel) (fun ad => [some (.ref (ad 0)), some (.int t), some (.int i), some (.int v)]) (fun _ => rfl) (fun _ => rfl) (fun _ => Nat.le_of_ble_eq_true rfl) (fun E C0 => ?_)
  have C : gCx SC E RX10 cX10_cell 4 (some .int) (d + 3) := C0
  refine G_iload_n (i := 1) C 1 dX10_cell_0 rfl rfl rfl ?_
  refine G_iconst (v := 0) C 2 dX10_cell_1 rfl rfl ?_
  refine G_iconst (v := 3) C 3 dX10_cell_2 rfl rfl ?_
  refine G_calli 6 (G_runS C Kc_X10_within KS_X10_112 (by omega) (c_X10_within 0 t 0 3 s) rfl rfl (Nat.le_of_ble_eq_true rfl) rfl dX10_cell_3) rfl (fun x3 s3 h3 => ?_)
  obtain ⟨es3, h3⟩ := h3
  have es3 := es3.symm
  subst es3
  refine G_if_ne C 12 9 dX10_cell_6 rfl rfl (fun c6 => ?_) (fun c6 => ?_)
  ·
    have k6 := g_neT h3 c6
    obtain ⟨ut, hut, eut⟩ := x_inR (b := 3) k6 rfl (by decide)
    have cut : t.toNatClampNeg = ut := by rw [eut, nI_clamp (by omega)]
    refine G_aload_n (i := 0) C 13 dX10_cell_12 rfl rfl rfl ?_
    refine X10_17g C 16 dX10_cell_13 rfl ?_
    refine G_iload_n (i := 1) C 17 dX10_cell_16 rfl rfl rfl ?_
    refine G_aald (r := (30 + 2 * ut)) C 18 (by decide) (eC2 _ _ _) (fun _ => rfl) (ut) eut (by omega) (by decide) rfl dX10_cell_17 rfl ?_
    refine X10_239g C (by omega) 21 dX10_cell_18 rfl (fun x18 ex18 => ?_)
    have Sx18 : x18 = B 2 ut := ex18.trans (cB_so hR.2.1 (by omega))
    refine G_iconst (v := (-1)) C 22 dX10_cell_21 rfl rfl ?_
    refine G_icmp_ne C 28 25 dX10_cell_22 rfl rfl (fun c22 => ?_) (fun c22 => ?_)
    ·
      obtain ⟨so, z, hso, hz, eso, ez⟩ := (hbI.2.2.2.2.1 ut (by omega)).resolve_left (fun w => c22 (Sx18.trans w.1))
      refine G_iload_n (i := 2) C 29 dX10_cell_28 rfl rfl rfl ?_
      refine G_iconst (v := 0) C 30 dX10_cell_29 rfl rfl ?_
      refine G_aload_n (i := 0) C 31 dX10_cell_30 rfl rfl rfl ?_
      refine X10_17g C 34 dX10_cell_31 rfl ?_
      refine G_iload_n (i := 1) C 35 dX10_cell_34 rfl rfl rfl ?_
      refine G_aald (r := (30 + 2 * ut)) C 36 (by decide) (eC2 _ _ _) (fun _ => rfl) (ut) eut (by omega) (by decide) rfl dX10_cell_35 rfl ?_
      refine X10_242g C (by omega) 39 dX10_cell_36 rfl (fun x36 ex36 => ?_)
      have Sx36 : x36 = B 3 ut := ex36.trans (cB_sz hR.2.1 (by omega))
      refine G_iconst (v := 1) C 40 dX10_cell_39 rfl rfl ?_
      refine G_isub C 41 dX10_cell_40 rfl (fun x40 ex40 => ?_)
      refine G_calli 44 (G_runS C Kc_X10_within KS_X10_112 (by omega) (c_X10_within 0 i 0 x40 s) rfl rfl (Nat.le_of_ble_eq_true rfl) rfl dX10_cell_41) rfl (fun x41 s41 h41 => ?_)
      obtain ⟨es41, h41⟩ := h41
      have es41 := es41.symm
      subst es41
      refine G_if_ne C 50 47 dX10_cell_44 rfl rfl (fun c44 => ?_) (fun c44 => ?_)
      ·
        have k44 := g_neT h41 c44
        obtain ⟨k, hk, ei⟩ := x_inS (z := z) (by omega) (by rw [← ez, ← Sx36, ← ex40]; exact k44)
        refine G_aload_n (i := 0) C 51 dX10_cell_50 rfl rfl rfl ?_
        refine X10_17g C 54 dX10_cell_51 rfl ?_
        refine G_iload_n (i := 1) C 55 dX10_cell_54 rfl rfl rfl ?_
        refine G_aald (r := (30 + 2 * ut)) C 56 (by decide) (eC2 _ _ _) (fun _ => rfl) (ut) eut (by omega) (by decide) rfl dX10_cell_55 rfl ?_
        refine G_iload_n (i := 2) C 57 dX10_cell_56 rfl rfl rfl ?_
        refine G_iload_n (i := 3) C 58 dX10_cell_57 rfl rfl rfl ?_
        refine G_callv 61 (G_runV C Kc_X4_set KV_X10_228 (by omega) (lS0 (by omega)) (eSh _ _ _ (by omega)) rfl (c_X4_set 0 ut (by omega) z k hz hk i v ei s ((cB_sz hR.2.1 (by omega)).trans ez)) rfl rfl rfl (Nat.le_of_ble_eq_true rfl) rfl dX10_cell_58) rfl (fun s58 h58 => ?_)
        refine G_iconst (v := 1) C 62 dX10_cell_61 rfl rfl ?_
        have hr : s_ceR B t i = 1 := by unfold s_ceR; rw [if_neg k6, cut, if_neg (fun w => c22 (Sx18.trans w)), ← Sx36, ← ex40, if_neg k44]
        exact G_iret C dX10_cell_62 (⟨by unfold s_ceB; rw [if_pos hr, cut, ei, nI_clamp (by omega)]; exact ⟨nT, n, l, Rc_num hR (by omega) h58 (nB := upd (B (4 + ut)) k (x_nar (B 2 ut) v)) (fun j hj => by rw [cB_so hR.2.1 (by omega)]; unfold upd; split <;> first | rfl | exact cB_nu hR.2.1 (by omega) hj) (fun j hj => by unfold upd; rw [if_neg (by omega)]; exact cB_n40 hR.2.1 (by omega) hj)⟩, hr.symm⟩)
      ·
        have k44 := h41.symm.trans c44
        refine G_bipush (v := (-12)) C 49 dX10_cell_47 rfl rfl ?_
        exact G_iret C dX10_cell_49 (⟨by unfold s_ceB; rw [if_neg (by unfold s_ceR; rw [if_neg k6, cut, if_neg (fun w => c22 (Sx18.trans w)), ← Sx36, ← ex40, if_pos k44]; decide)]; exact ⟨nT, n, l, hR⟩, by unfold s_ceR; rw [if_neg k6, cut, if_neg (fun w => c22 (Sx18.trans w)), ← Sx36, ← ex40, if_pos k44]⟩)
    ·
      refine G_bipush (v := (-11)) C 27 dX10_cell_25 rfl rfl ?_
      exact G_iret C dX10_cell_27 (⟨by unfold s_ceB; rw [if_neg (by unfold s_ceR; rw [if_neg k6, cut, if_pos (Sx18.symm.trans c22)]; decide)]; exact ⟨nT, n, l, hR⟩, by unfold s_ceR; rw [if_neg k6, cut, if_pos (Sx18.symm.trans c22)]⟩)
  ·
    have k6 := h3.symm.trans c6
    refine G_bipush (v := (-2)) C 11 dX10_cell_9 rfl rfl ?_
    exact G_iret C dX10_cell_11 (⟨by unfold s_ceB; rw [if_neg (by unfold s_ceR; rw [if_pos k6]; decide)]; exact ⟨nT, n, l, hR⟩, by unfold s_ceR; rw [if_pos k6]⟩)
