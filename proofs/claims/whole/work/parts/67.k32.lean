def c_post (s : gS) (t e : Nat) (r : Int32) (s' : gS) : Prop := (t = 6 ∧ r = -4 ∧ s' = s) ∨ (t < 6 ∧ c_J t s s' ∧ s' 3 1 = 0 ∧ ((t_ok (t_L (s 4) e 0) ∧ r = nI t ∧ s' 0 8 = nI (t + 1) ∧ cT (fun _ => t_cs (t_L (s 4) e 0)) s' t) ∨ (¬ t_ok (t_L (s 4) e 0) ∧ r = -100 - nI (t_flt (t_L (s 4) e 0)) ∧ s' 0 8 = nI t)))
theorem Rc_te {TX : gTX} {nT n l e : Nat} {P B s s' : gS} {r : Int32} (h : Rc TX nT n l P B s) (he : B 0 1 = nI e) (he160 : e ≤ 160) (hp : c_post s nT e r s') : RC (s_teT TX B) P (s_teB B) s' ∧ r = s_teR B := by
  have hB0 : B 0 0 = nI nT := h.2.2.1
  have hnT : nT ≤ 6 := h.1.2.2.1.2.2.2.2.1
  have h06 : s 3 1 = nI e := by rw [← he, ← h.2.1]; rfl
  rcases hp with ⟨h6, hr, hs⟩ | ⟨h6, hJ, h60, hp⟩
  · have hB6 : B 0 0 = 6 := by rw [hB0, h6]; rfl
    unfold s_teT s_teB s_teR
    rw [if_pos hB6, if_pos hB6, if_pos hB6, hs]
    exact ⟨⟨nT, n, l, h⟩, hr⟩
  · have hB6 : ¬ B 0 0 = 6 := fun z => by
      rw [hB0] at z
      have z2 : nI nT = nI 6 := z
      exact absurd ((nI_eq (by omega) (by decide)).mp z2) (by omega)
    have hL : t_L (s 4) e 0 = s_teL B := by
      unfold s_teL
      rw [he, nI_clamp (by omega)]
      refine t_L_cg (fun j hj => ?_) 0
      rw [← h.2.1]
      show s 4 j = if j < (s 3 1).toNatClampNeg then s 4 j else 0
      rw [h06, nI_clamp (by omega), if_pos hj]
    rw [hL] at hp
    have hcv : cv s' 45 = P := (cv_J h6 hJ).trans h.1.2.1
    have hcB : cB s' = s_teU B (s' 0 8) := by rw [cB_te h6 hJ h60, h.2.1]
    have hold : ∀ u, u < nT → cT TX s' u := fun u hu => cT_J hJ hu (h.1.2.2.2 u hu)
    have hht : ∀ u, u < nT → ∀ j, j < 3 → x_ht (TX u j) 0 = some 1 := h.1.2.2.1.2.2.2.2.2.2.1
    have hokv : ∀ q, q ∈ s_teL B → t_okv q.1 := by
      unfold s_teL
      exact t_L_okv _ 0 (Nat.le_refl _) (Nat.zero_le _)
    rcases hp with ⟨hk, hr, h9, hm⟩ | ⟨hk, hr, h9⟩
    · have hTX : s_teT TX B = s_teX TX nT (s_teL B) (t_cs (s_teL B)) := by
        unfold s_teT
        rw [if_neg hB6, if_pos hk, hB0, nI_clamp (by omega)]
      have hBB : s_teB B = s_teU B (nI (nT + 1)) := by
        unfold s_teB
        rw [if_neg hB6, if_pos hk, hB0, show (1 : Int32) = nI 1 from rfl, nI_add]
      have hTo : ∀ u, u < nT → s_teX TX nT (s_teL B) (t_cs (s_teL B)) u = TX u := fun u hu => funext (fun j => if_neg (by omega))
      have hTn : s_teX TX nT (s_teL B) (t_cs (s_teL B)) nT = t_cs (s_teL B) := funext (fun j => if_pos rfl)
      have hnew : ∀ u, u < nT + 1 → ∀ j, j < 3 → x_ht (s_teX TX nT (s_teL B) (t_cs (s_teL B)) u j) 0 = some 1 := by
        intro u hu j hj
        by_cases hz : u = nT
        · rw [hz, hTn]
          exact t_ok_ht hokv hk j hj
        · rw [hTo u (by omega)]
          exact hht u (by omega) j hj
      rw [hTX, hBB]
      refine ⟨⟨nT + 1, n, l, ⟨h.1.1, hcv, pI_te h.1.2.2.1 (by omega) (by omega) hnew, fun u hu => ?_⟩, by rw [hcB, h9], bI_te h.2.2 (by omega) (by omega) hnew⟩, ?_⟩
      · by_cases hz : u = nT
        · rw [hz]
          exact cT_cg hTn.symm hm
        · exact cT_cg (hTo u (by omega)).symm (hold u (by omega))
      · unfold s_teR
        rw [if_neg hB6, if_pos hk, hB0]
        exact hr
    · have hTX : s_teT TX B = TX := by
        unfold s_teT
        rw [if_neg hB6, if_neg hk]
      have hBB : s_teB B = s_teU B (nI nT) := by
        unfold s_teB
        rw [if_neg hB6, if_neg hk, hB0]
      rw [hTX, hBB]
      refine ⟨⟨nT, n, l, ⟨h.1.1, hcv, h.1.2.2.1, hold⟩, by rw [hcB, h9], bI_te h.2.2 (Nat.le_refl _) hnT hht⟩, ?_⟩
      unfold s_teR
      rw [if_neg hB6, if_neg hk]
      exact hr
